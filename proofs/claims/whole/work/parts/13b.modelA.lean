def B_feed_0 (rc : MP) (cl : MC) (Q : Int → Mem → Prop) (d : Nat) (x1 x3 : Int) (M : Mem) : Prop := (x3 < 1 → Q (-4) M) ∧ (¬ (x3 < 1) → (x3 ≤ 8 → -2147483648 ≤ (M 0 2) + x3 ∧ (M 0 2) + x3 ≤ 2147483647 ∧ (((M 0 2) + x3) ≤ 3000 → -2147483648 ≤ x3 - 1 ∧ x3 - 1 ≤ 2147483647 ∧ rc n_feed_34 [x1, x3, x3 - 1] M) ∧ (¬ (((M 0 2) + x3) ≤ 3000) → Q (-2) M)) ∧ (¬ (x3 ≤ 8) → Q (-4) M))
set_option maxRecDepth 10000 in
theorem s_feed_0 {l : Launch} {G : GT} {m : Int} {a : Int → Int} {d mc ms : Nat} {S : Sh} {Q : Int → Mem → Prop} {rc : MP} {cl : MC} {V0 V M : Mem} {x1 x3 : Int} (hrc : RCok l G m a S V0 Q d mc ms rc) (hcl : CLok l G m a S d cl) (mr : MR m a S V M) (mf : MF m a V0 V) (hB : B_feed_0 rc cl Q d x1 x3 M) : XJ l G bX12_feed (Qm m a S V0 Q) (d + 1) 0 [vr m, vl x1, vu, vi x3, vu] [] S V mc ms := by
  unfold B_feed_0 at hB
  refine X_iload_n dX12_feed_0 rfl ?_
  refine X_iconst dX12_feed_1 (by decide) ?_
  refine X_icmp_lt dX12_feed_2 (tgt := 11) rfl (fun c1 => ?_) (fun c1 => ?_)
  · refine X_bipush dX12_feed_11 (by decide) (by decide) ?_
    exact X_ret (z := (-4)) dX12_feed_13 rfl (fun hv => vok_h hv) ⟨rfl, _, (hB.1 c1), mr, mf⟩
  · refine X_iload_n dX12_feed_5 rfl ?_
    refine X_bipush dX12_feed_6 (by decide) (by decide) ?_
    refine X_icmp_le dX12_feed_8 (tgt := 14) rfl (fun c2 => ?_) (fun c2 => ?_)
    · refine X_aload_n dX12_feed_14 rfl ?_
      refine X_getfield (ci := 12) (k := 2) (v := vi (M 0 2)) dX12_feed_15 rfl (by decide) kf_RX12_192 (congrArg vi (MR.in_ mr (k := 2) (by decide) rfl)) mr.1 ?_
      refine X_iload_n dX12_feed_18 rfl ?_
      refine X_iaddN dX12_feed_19 ((hB.2 c1).1 c2).1 ((hB.2 c1).1 c2).2.1 ?_
      refine X_sipush dX12_feed_20 (by decide) (by decide) ?_
      refine X_icmp_le dX12_feed_23 (tgt := 29) rfl (fun c3 => ?_) (fun c3 => ?_)
      · refine X_iload_n dX12_feed_29 rfl ?_
        refine X_iconst dX12_feed_30 (by decide) ?_
        refine X_isubN dX12_feed_31 (((hB.2 c1).1 c2).2.2.1 c3).1 (((hB.2 c1).1 c2).2.2.1 c3).2.1 ?_
        refine X_istore dX12_feed_32 (by decide) rfl ?_
        exact hrc n_feed_34 [x1, x3, x3 - 1] _ _ (((hB.2 c1).1 c2).2.2.1 c3).2.2 mr mf
      · refine X_bipush dX12_feed_26 (by decide) (by decide) ?_
        exact X_ret (z := (-2)) dX12_feed_28 rfl (fun hv => vok_h hv) ⟨rfl, _, (((hB.2 c1).1 c2).2.2.2 c3), mr, mf⟩
    · refine X_bipush dX12_feed_11 (by decide) (by decide) ?_
      exact X_ret (z := (-4)) dX12_feed_13 rfl (fun hv => vok_h hv) ⟨rfl, _, ((hB.2 c1).2 c2), mr, mf⟩
def B_feed_34 (rc : MP) (cl : MC) (Q : Int → Mem → Prop) (d : Nat) (x1 x3 x4 : Int) (M : Mem) : Prop := (x4 < 0 → Q (M 0 2) M) ∧ (¬ (x4 < 0) → -2147483648 ≤ 8 * x4 ∧ 8 * x4 ≤ 2147483647 ∧ 0 ≤ (M 0 2) ∧ (M 0 2) < 3000 ∧ -2147483648 ≤ (M 0 2) + 1 ∧ (M 0 2) + 1 ≤ 2147483647 ∧ -2147483648 ≤ x4 - 1 ∧ x4 - 1 ≤ 2147483647 ∧ rc n_feed_34 [x1, x3, x4 - 1] (up (up M 1 (M 0 2) (wb (wb (wr (lShr x1 (8 * x4)))))) 0 2 ((M 0 2) + 1)))
set_option maxRecDepth 10000 in
theorem s_feed_34 {l : Launch} {G : GT} {m : Int} {a : Int → Int} {d mc ms : Nat} {S : Sh} {Q : Int → Mem → Prop} {rc : MP} {cl : MC} {V0 V M : Mem} {x1 x3 x4 : Int} (hrc : RCok l G m a S V0 Q d mc ms rc) (hcl : CLok l G m a S d cl) (mr : MR m a S V M) (mf : MF m a V0 V) (hB : B_feed_34 rc cl Q d x1 x3 x4 M) : XJ l G bX12_feed (Qm m a S V0 Q) (d + 1) 34 [vr m, vl x1, vu, vi x3, vi x4] [] S V mc ms := by
  unfold B_feed_34 at hB
  refine X_iload dX12_feed_34 rfl ?_
  refine X_if_lt dX12_feed_36 (tgt := 73) rfl (fun c1 => ?_) (fun c1 => ?_)
  · refine X_aload_n dX12_feed_73 rfl ?_
    refine X_getfield (ci := 12) (k := 2) (v := vi (M 0 2)) dX12_feed_74 rfl (by decide) kf_RX12_192 (congrArg vi (MR.in_ mr (k := 2) (by decide) rfl)) mr.1 ?_
    exact X_ret (z := (M 0 2)) dX12_feed_77 rfl (fun hv => vok_h hv) ⟨rfl, _, (hB.1 c1), mr, mf⟩
  · refine X_aload_n dX12_feed_39 rfl ?_
    refine X_getfield (ci := 12) (k := 1) (v := vr (a 1)) dX12_feed_40 rfl (by decide) kf_RX12_7 (congrArg vr (MR.ar mr (k := 1) (by decide)).1) mr.1 ?_
    refine X_aload_n dX12_feed_43 rfl ?_
    refine X_getfield (ci := 12) (k := 2) (v := vi (M 0 2)) dX12_feed_44 rfl (by decide) kf_RX12_192 (congrArg vi (MR.in_ mr (k := 2) (by decide) rfl)) mr.1 ?_
    refine X_lload_n dX12_feed_47 rfl ?_
    refine X_bipush dX12_feed_48 (by decide) (by decide) ?_
    refine X_iload dX12_feed_50 rfl ?_
    refine X_imulN dX12_feed_52 (hB.2 c1).1 (hB.2 c1).2.1 ?_
    refine X_lshr dX12_feed_53 ?_
    refine X_l2i dX12_feed_54 ?_
    refine X_i2b dX12_feed_55 ?_
    refine X_bastore dX12_feed_56 ((MR.ar mr (k := 1) (by decide)).2.1.trans (by decide)) (hB.2 c1).2.2.1 (lt_eq (hB.2 c1).2.2.2.1 (MR.ln mr (k := 1) (by decide) (by decide))) ?_
    refine X_aload_n dX12_feed_57 rfl ?_
    refine X_dup dX12_feed_58 (rv_cat _) ?_
    refine X_getfield (ci := 12) (k := 2) (v := vi (M 0 2)) dX12_feed_59 rfl (by decide) kf_RX12_192 (congrArg vi (MR.in_ (MR.putA mr (k := 1) (j := M 0 2) (z := wb (wb (wr (lShr x1 (8 * x4))))) (by decide)) (k := 2) (by decide) (up_ne (Or.inl (by decide))))) (MR.putA mr (k := 1) (j := M 0 2) (z := wb (wb (wr (lShr x1 (8 * x4))))) (by decide)).1 ?_
    refine X_iconst dX12_feed_62 (by decide) ?_
    refine X_iaddN dX12_feed_63 (hB.2 c1).2.2.2.2.1 (hB.2 c1).2.2.2.2.2.1 ?_
    refine X_putfield (ci := 12) (k := 2) (z := ((M 0 2) + 1)) dX12_feed_64 rfl (by decide) kf_RX12_192 (Or.inl rfl) (Or.inl rfl) rfl (fun hv => hv) (MR.putA mr (k := 1) (j := M 0 2) (z := wb (wb (wr (lShr x1 (8 * x4))))) (by decide)).1 ?_
    refine X_iincN dX12_feed_67 rfl (by decide) rfl (e := x4 - 1) Int.sub_eq_add_neg (hB.2 c1).2.2.2.2.2.2.1 (hB.2 c1).2.2.2.2.2.2.2.1 ?_
    refine X_goto dX12_feed_70 (tgt := 34) rfl ?_
    exact hrc n_feed_34 [x1, x3, x4 - 1] _ _ (hB.2 c1).2.2.2.2.2.2.2.2 (MR.putI (MR.putA mr (k := 1) (j := M 0 2) (z := wb (wb (wr (lShr x1 (8 * x4))))) (by decide)) (k := 2) (z := (M 0 2) + 1) (by decide)) (MF.putI (MF.putA mf (k := 1) (j := M 0 2) (z := wb (wb (wr (lShr x1 (8 * x4))))) (by decide)) (k := 2) (z := (M 0 2) + 1))
def B_cut_0 (rc : MP) (cl : MC) (Q : Int → Mem → Prop) (d : Nat) (x1 : Int) (M : Mem) : Prop := (x1 < 0 → Q (-4) M) ∧ (¬ (x1 < 0) → (x1 ≤ (M 0 2) → Q x1 (up M 0 2 x1)) ∧ (¬ (x1 ≤ (M 0 2)) → Q (-4) M))
set_option maxRecDepth 10000 in
theorem s_cut_0 {l : Launch} {G : GT} {m : Int} {a : Int → Int} {d mc ms : Nat} {S : Sh} {Q : Int → Mem → Prop} {rc : MP} {cl : MC} {V0 V M : Mem} {x1 : Int} (hrc : RCok l G m a S V0 Q d mc ms rc) (hcl : CLok l G m a S d cl) (mr : MR m a S V M) (mf : MF m a V0 V) (hB : B_cut_0 rc cl Q d x1 M) : XJ l G bX12_cut (Qm m a S V0 Q) (d + 1) 0 [vr m, vi x1] [] S V mc ms := by
  unfold B_cut_0 at hB
  refine X_iload_n dX12_cut_0 rfl ?_
  refine X_if_lt dX12_cut_1 (tgt := 12) rfl (fun c1 => ?_) (fun c1 => ?_)
  · refine X_bipush dX12_cut_12 (by decide) (by decide) ?_
    exact X_ret (z := (-4)) dX12_cut_14 rfl (fun hv => vok_h hv) ⟨rfl, _, (hB.1 c1), mr, mf⟩
  · refine X_iload_n dX12_cut_4 rfl ?_
    refine X_aload_n dX12_cut_5 rfl ?_
    refine X_getfield (ci := 12) (k := 2) (v := vi (M 0 2)) dX12_cut_6 rfl (by decide) kf_RX12_192 (congrArg vi (MR.in_ mr (k := 2) (by decide) rfl)) mr.1 ?_
    refine X_icmp_le dX12_cut_9 (tgt := 15) rfl (fun c2 => ?_) (fun c2 => ?_)
    · refine X_aload_n dX12_cut_15 rfl ?_
      refine X_iload_n dX12_cut_16 rfl ?_
      refine X_putfield (ci := 12) (k := 2) (z := x1) dX12_cut_17 rfl (by decide) kf_RX12_192 (Or.inl rfl) (Or.inl rfl) rfl (fun hv => hv) mr.1 ?_
      refine X_iload_n dX12_cut_20 rfl ?_
      exact X_ret (z := x1) dX12_cut_21 rfl (fun hv => vok_h hv) ⟨rfl, _, ((hB.2 c1).1 c2), (MR.putI mr (k := 2) (z := x1) (by decide)), (MF.putI mf (k := 2) (z := x1))⟩
    · refine X_bipush dX12_cut_12 (by decide) (by decide) ?_
      exact X_ret (z := (-4)) dX12_cut_14 rfl (fun hv => vok_h hv) ⟨rfl, _, ((hB.2 c1).2 c2), mr, mf⟩
def B_isLetter_0 (rc : MP) (cl : MC) (Q : Int → Mem → Prop) (d : Nat) (x0 : Int) (M : Mem) : Prop := (x0 < 97 → (x0 < 65 → Q 0 M) ∧ (¬ (x0 < 65) → (90 < x0 → Q 0 M) ∧ (¬ (90 < x0) → Q 1 M))) ∧ (¬ (x0 < 97) → (x0 ≤ 122 → Q 1 M) ∧ (¬ (x0 ≤ 122) → (x0 < 65 → Q 0 M) ∧ (¬ (x0 < 65) → (90 < x0 → Q 0 M) ∧ (¬ (90 < x0) → Q 1 M))))
set_option maxRecDepth 10000 in
theorem s_isLetter_0 {l : Launch} {G : GT} {m : Int} {a : Int → Int} {d mc ms : Nat} {S : Sh} {Q : Int → Mem → Prop} {rc : MP} {cl : MC} {V0 V M : Mem} {x0 : Int} (hrc : RCok l G m a S V0 Q d mc ms rc) (hcl : CLok l G m a S d cl) (mr : MR m a S V M) (mf : MF m a V0 V) (hB : B_isLetter_0 rc cl Q d x0 M) : XJ l G bX12_isLetter (Qm m a S V0 Q) (d + 1) 0 [vi x0] [] S V mc ms := by
  unfold B_isLetter_0 at hB
  refine X_iload_n dX12_isLetter_0 rfl ?_
  refine X_bipush dX12_isLetter_1 (by decide) (by decide) ?_
  refine X_icmp_lt dX12_isLetter_3 (tgt := 12) rfl (fun c1 => ?_) (fun c1 => ?_)
  · refine X_iload_n dX12_isLetter_12 rfl ?_
    refine X_bipush dX12_isLetter_13 (by decide) (by decide) ?_
    refine X_icmp_lt dX12_isLetter_15 (tgt := 28) rfl (fun c2 => ?_) (fun c2 => ?_)
    · refine X_iconst dX12_isLetter_28 (by decide) ?_
      exact X_ret (z := 0) dX12_isLetter_29 rfl (fun _ => Or.inl rfl) ⟨rfl, _, ((hB.1 c1).1 c2), mr, mf⟩
    · refine X_iload_n dX12_isLetter_18 rfl ?_
      refine X_bipush dX12_isLetter_19 (by decide) (by decide) ?_
      refine X_icmp_gt dX12_isLetter_21 (tgt := 28) rfl (fun c3 => ?_) (fun c3 => ?_)
      · refine X_iconst dX12_isLetter_28 (by decide) ?_
        exact X_ret (z := 0) dX12_isLetter_29 rfl (fun _ => Or.inl rfl) ⟨rfl, _, (((hB.1 c1).2 c2).1 c3), mr, mf⟩
      · refine X_iconst dX12_isLetter_24 (by decide) ?_
        refine X_goto dX12_isLetter_25 (tgt := 29) rfl ?_
        exact X_ret (z := 1) dX12_isLetter_29 rfl (fun _ => Or.inr rfl) ⟨rfl, _, (((hB.1 c1).2 c2).2 c3), mr, mf⟩
  · refine X_iload_n dX12_isLetter_6 rfl ?_
    refine X_bipush dX12_isLetter_7 (by decide) (by decide) ?_
    refine X_icmp_le dX12_isLetter_9 (tgt := 24) rfl (fun c4 => ?_) (fun c4 => ?_)
    · refine X_iconst dX12_isLetter_24 (by decide) ?_
      refine X_goto dX12_isLetter_25 (tgt := 29) rfl ?_
      exact X_ret (z := 1) dX12_isLetter_29 rfl (fun _ => Or.inr rfl) ⟨rfl, _, ((hB.2 c1).1 c4), mr, mf⟩
    · refine X_iload_n dX12_isLetter_12 rfl ?_
      refine X_bipush dX12_isLetter_13 (by decide) (by decide) ?_
      refine X_icmp_lt dX12_isLetter_15 (tgt := 28) rfl (fun c5 => ?_) (fun c5 => ?_)
      · refine X_iconst dX12_isLetter_28 (by decide) ?_
        exact X_ret (z := 0) dX12_isLetter_29 rfl (fun _ => Or.inl rfl) ⟨rfl, _, (((hB.2 c1).2 c4).1 c5), mr, mf⟩
      · refine X_iload_n dX12_isLetter_18 rfl ?_
        refine X_bipush dX12_isLetter_19 (by decide) (by decide) ?_
        refine X_icmp_gt dX12_isLetter_21 (tgt := 28) rfl (fun c6 => ?_) (fun c6 => ?_)
        · refine X_iconst dX12_isLetter_28 (by decide) ?_
          exact X_ret (z := 0) dX12_isLetter_29 rfl (fun _ => Or.inl rfl) ⟨rfl, _, ((((hB.2 c1).2 c4).2 c5).1 c6), mr, mf⟩
        · refine X_iconst dX12_isLetter_24 (by decide) ?_
          refine X_goto dX12_isLetter_25 (tgt := 29) rfl ?_
          exact X_ret (z := 1) dX12_isLetter_29 rfl (fun _ => Or.inr rfl) ⟨rfl, _, ((((hB.2 c1).2 c4).2 c5).2 c6), mr, mf⟩
def B_isDigit_0 (rc : MP) (cl : MC) (Q : Int → Mem → Prop) (d : Nat) (x0 : Int) (M : Mem) : Prop := (x0 < 48 → Q 0 M) ∧ (¬ (x0 < 48) → (57 < x0 → Q 0 M) ∧ (¬ (57 < x0) → Q 1 M))
set_option maxRecDepth 10000 in
theorem s_isDigit_0 {l : Launch} {G : GT} {m : Int} {a : Int → Int} {d mc ms : Nat} {S : Sh} {Q : Int → Mem → Prop} {rc : MP} {cl : MC} {V0 V M : Mem} {x0 : Int} (hrc : RCok l G m a S V0 Q d mc ms rc) (hcl : CLok l G m a S d cl) (mr : MR m a S V M) (mf : MF m a V0 V) (hB : B_isDigit_0 rc cl Q d x0 M) : XJ l G bX12_isDigit (Qm m a S V0 Q) (d + 1) 0 [vi x0] [] S V mc ms := by
  unfold B_isDigit_0 at hB
  refine X_iload_n dX12_isDigit_0 rfl ?_
  refine X_bipush dX12_isDigit_1 (by decide) (by decide) ?_
  refine X_icmp_lt dX12_isDigit_3 (tgt := 16) rfl (fun c1 => ?_) (fun c1 => ?_)
  · refine X_iconst dX12_isDigit_16 (by decide) ?_
    exact X_ret (z := 0) dX12_isDigit_17 rfl (fun _ => Or.inl rfl) ⟨rfl, _, (hB.1 c1), mr, mf⟩
  · refine X_iload_n dX12_isDigit_6 rfl ?_
    refine X_bipush dX12_isDigit_7 (by decide) (by decide) ?_
    refine X_icmp_gt dX12_isDigit_9 (tgt := 16) rfl (fun c2 => ?_) (fun c2 => ?_)
    · refine X_iconst dX12_isDigit_16 (by decide) ?_
      exact X_ret (z := 0) dX12_isDigit_17 rfl (fun _ => Or.inl rfl) ⟨rfl, _, ((hB.2 c1).1 c2), mr, mf⟩
    · refine X_iconst dX12_isDigit_12 (by decide) ?_
      refine X_goto dX12_isDigit_13 (tgt := 17) rfl ?_
      exact X_ret (z := 1) dX12_isDigit_17 rfl (fun _ => Or.inr rfl) ⟨rfl, _, ((hB.2 c1).2 c2), mr, mf⟩
def B_at_0 (rc : MP) (cl : MC) (Q : Int → Mem → Prop) (d : Nat) (x1 : Int) (M : Mem) : Prop := ((M 0 2) ≤ x1 → Q 0 M) ∧ (¬ ((M 0 2) ≤ x1) → 0 ≤ x1 ∧ x1 < 3000 ∧ Q (bAnd (M 1 x1) 255) M)
set_option maxRecDepth 10000 in
theorem s_at_0 {l : Launch} {G : GT} {m : Int} {a : Int → Int} {d mc ms : Nat} {S : Sh} {Q : Int → Mem → Prop} {rc : MP} {cl : MC} {V0 V M : Mem} {x1 : Int} (hrc : RCok l G m a S V0 Q d mc ms rc) (hcl : CLok l G m a S d cl) (mr : MR m a S V M) (mf : MF m a V0 V) (hB : B_at_0 rc cl Q d x1 M) : XJ l G bX12_at (Qm m a S V0 Q) (d + 1) 0 [vr m, vi x1] [] S V mc ms := by
  unfold B_at_0 at hB
  refine X_iload_n dX12_at_0 rfl ?_
  refine X_aload_n dX12_at_1 rfl ?_
  refine X_getfield (ci := 12) (k := 2) (v := vi (M 0 2)) dX12_at_2 rfl (by decide) kf_RX12_192 (congrArg vi (MR.in_ mr (k := 2) (by decide) rfl)) mr.1 ?_
  refine X_icmp_ge dX12_at_5 (tgt := 21) rfl (fun c1 => ?_) (fun c1 => ?_)
  · refine X_iconst dX12_at_21 (by decide) ?_
    exact X_ret (z := 0) dX12_at_22 rfl (fun hv => vok_h hv) ⟨rfl, _, (hB.1 c1), mr, mf⟩
  · refine X_aload_n dX12_at_8 rfl ?_
    refine X_getfield (ci := 12) (k := 1) (v := vr (a 1)) dX12_at_9 rfl (by decide) kf_RX12_7 (congrArg vr (MR.ar mr (k := 1) (by decide)).1) mr.1 ?_
    refine X_iload_n dX12_at_12 rfl ?_
    refine X_baload dX12_at_13 ((MR.ar mr (k := 1) (by decide)).2.1.trans (by decide)) (hB.2 c1).1 (lt_eq (hB.2 c1).2.1 (MR.ln mr (k := 1) (by decide) (by decide))) ?_
    refine X_top (v := vi (M 1 x1)) (congrArg vi (MR.el mr (k := 1) (by decide) rfl)) ?_
    refine X_sipush dX12_at_14 (by decide) (by decide) ?_
    refine X_iand dX12_at_17 ?_
    refine X_goto dX12_at_18 (tgt := 22) rfl ?_
    exact X_ret (z := (bAnd (M 1 x1) 255)) dX12_at_22 rfl (fun hv => vok_h hv) ⟨rfl, _, (hB.2 c1).2.2, mr, mf⟩
def B_next_0 (rc : MP) (cl : MC) (Q : Int → Mem → Prop) (d : Nat) (M : Mem) : Prop := rc n_next_8 [] (up M 0 4 (M 0 5))
set_option maxRecDepth 10000 in
theorem s_next_0 {l : Launch} {G : GT} {m : Int} {a : Int → Int} {d mc ms : Nat} {S : Sh} {Q : Int → Mem → Prop} {rc : MP} {cl : MC} {V0 V M : Mem} (hrc : RCok l G m a S V0 Q d mc ms rc) (hcl : CLok l G m a S d cl) (mr : MR m a S V M) (mf : MF m a V0 V) (hB : B_next_0 rc cl Q d  M) : XJ l G bX12_next (Qm m a S V0 Q) (d + 1) 0 [vr m, vu, vu, vu, vu] [] S V mc ms := by
  unfold B_next_0 at hB
  refine X_aload_n dX12_next_0 rfl ?_
  refine X_aload_n dX12_next_1 rfl ?_
  refine X_getfield (ci := 12) (k := 5) (v := vi (M 0 5)) dX12_next_2 rfl (by decide) kf_RX12_195 (congrArg vi (MR.in_ mr (k := 5) (by decide) rfl)) mr.1 ?_
  refine X_putfield (ci := 12) (k := 4) (z := (M 0 5)) dX12_next_5 rfl (by decide) kf_RX12_198 (Or.inl rfl) (Or.inl rfl) rfl (fun hv => hv) mr.1 ?_
  exact hrc n_next_8 [] _ _ hB (MR.putI mr (k := 4) (z := M 0 5) (by decide)) (MF.putI mf (k := 4) (z := M 0 5))
def B_next_8 (rc : MP) (cl : MC) (Q : Int → Mem → Prop) (d : Nat) (M : Mem) : Prop := cl n_at_0 [M 0 4] M (fun z1 M1 => (z1 = 32 → -2147483648 ≤ (M1 0 4) + 1 ∧ (M1 0 4) + 1 ≤ 2147483647 ∧ rc n_next_8 [] (up M1 0 4 ((M1 0 4) + 1))) ∧ (¬ (z1 = 32) → cl n_at_0 [M1 0 4] M1 (fun z4 M4 => (z4 ≠ 10 → cl n_at_0 [M4 0 4] (up M4 0 5 (M4 0 4)) (fun z7 M7 => ((M7 0 4) < (M7 0 2) → cl n_isLetter_0 [z7] M7 (fun z10 M10 => (z10 ≠ 0 → rc n_next_115 [z7, 0] M10) ∧ (¬ (z10 ≠ 0) → cl n_isDigit_0 [z7] M10 (fun z13 M13 => (z13 = 0 → -2147483648 ≤ (M13 0 5) + 1 ∧ (M13 0 5) + 1 ≤ 2147483647 ∧ 5 ≤ d ∧ ((js_ix 3 z7) < 0 → Q 0 (up (up M13 0 5 ((M13 0 5) + 1)) 0 3 1)) ∧ (¬ ((js_ix 3 z7) < 0) → Q 0 (up (up M13 0 5 ((M13 0 5) + 1)) 0 3 4))) ∧ (¬ (z13 = 0) → rc n_next_115 [z7, 0] M13))))) ∧ (¬ ((M7 0 4) < (M7 0 2)) → Q 0 (up (up (up M7 0 4 (M7 0 2)) 0 5 (M7 0 2)) 0 3 0)))) ∧ (¬ (z4 ≠ 10) → -2147483648 ≤ (M4 0 4) + 1 ∧ (M4 0 4) + 1 ≤ 2147483647 ∧ rc n_next_8 [] (up M4 0 4 ((M4 0 4) + 1))))))
set_option maxRecDepth 10000 in
theorem s_next_8 {l : Launch} {G : GT} {m : Int} {a : Int → Int} {d mc ms : Nat} {S : Sh} {Q : Int → Mem → Prop} {rc : MP} {cl : MC} {V0 V M : Mem} (hrc : RCok l G m a S V0 Q d mc ms rc) (hcl : CLok l G m a S d cl) (mr : MR m a S V M) (mf : MF m a V0 V) (hB : B_next_8 rc cl Q d  M) : XJ l G bX12_next (Qm m a S V0 Q) (d + 1) 8 [vr m, vu, vu, vu, vu] [] S V mc ms := by
  unfold B_next_8 at hB
  refine X_aload_n dX12_next_8 rfl ?_
  refine X_aload_n dX12_next_9 rfl ?_
  refine X_getfield (ci := 12) (k := 4) (v := vi (M 0 4)) dX12_next_10 rfl (by decide) kf_RX12_198 (congrArg vi (MR.in_ mr (k := 4) (by decide) rfl)) mr.1 ?_
  refine X_invV (ci := 12) (as := [vi (M 0 4)]) (st := []) okX12_at dX12_next_13 km_RX12_201 rfl rfl (Nat.le_of_ble_eq_true rfl) rfl rfl mr.1 (CT.of d 0 0 (hcl n_at_0 rfl [M 0 4] _ _ _ hB mr) (Nat.le_refl _) (Nat.zero_le _) (Nat.zero_le _) (fun z1 S1 V1 hq1 => ?_))
  obtain ⟨rfl, M1, hc2, mr1, hf1⟩ := hq1
  have mf1 := MF.trans mf hf1
  refine X_bipush dX12_next_16 (by decide) (by decide) ?_
  refine X_icmp_eq dX12_next_18 (tgt := 34) rfl (fun c3 => ?_) (fun c3 => ?_)
  · refine X_aload_n dX12_next_34 rfl ?_
    refine X_dup dX12_next_35 (rv_cat _) ?_
    refine X_getfield (ci := 12) (k := 4) (v := vi (M1 0 4)) dX12_next_36 rfl (by decide) kf_RX12_198 (congrArg vi (MR.in_ mr1 (k := 4) (by decide) rfl)) mr1.1 ?_
    refine X_iconst dX12_next_39 (by decide) ?_
    refine X_iaddN dX12_next_40 (hc2.1 c3).1 (hc2.1 c3).2.1 ?_
    refine X_putfield (ci := 12) (k := 4) (z := ((M1 0 4) + 1)) dX12_next_41 rfl (by decide) kf_RX12_198 (Or.inl rfl) (Or.inl rfl) rfl (fun hv => hv) mr1.1 ?_
    refine X_goto dX12_next_44 (tgt := 8) rfl ?_
    exact hrc n_next_8 [] _ _ (hc2.1 c3).2.2 (MR.putI mr1 (k := 4) (z := (M1 0 4) + 1) (by decide)) (MF.putI mf1 (k := 4) (z := (M1 0 4) + 1))
  · refine X_aload_n dX12_next_21 rfl ?_
    refine X_aload_n dX12_next_22 rfl ?_
    refine X_getfield (ci := 12) (k := 4) (v := vi (M1 0 4)) dX12_next_23 rfl (by decide) kf_RX12_198 (congrArg vi (MR.in_ mr1 (k := 4) (by decide) rfl)) mr1.1 ?_
    refine X_invV (ci := 12) (as := [vi (M1 0 4)]) (st := []) okX12_at dX12_next_26 km_RX12_201 rfl rfl (Nat.le_of_ble_eq_true rfl) rfl rfl mr1.1 (CT.of d 0 0 (hcl n_at_0 rfl [M1 0 4] _ _ _ (hc2.2 c3) mr1) (Nat.le_refl _) (Nat.zero_le _) (Nat.zero_le _) (fun z4 S4 V4 hq4 => ?_))
    obtain ⟨rfl, M4, hc5, mr4, hf4⟩ := hq4
    have mf4 := MF.trans mf1 hf4
    refine X_bipush dX12_next_29 (by decide) (by decide) ?_
    refine X_icmp_ne dX12_next_31 (tgt := 47) rfl (fun c6 => ?_) (fun c6 => ?_)
    · refine X_aload_n dX12_next_47 rfl ?_
      refine X_aload_n dX12_next_48 rfl ?_
      refine X_getfield (ci := 12) (k := 4) (v := vi (M4 0 4)) dX12_next_49 rfl (by decide) kf_RX12_198 (congrArg vi (MR.in_ mr4 (k := 4) (by decide) rfl)) mr4.1 ?_
      refine X_putfield (ci := 12) (k := 5) (z := (M4 0 4)) dX12_next_52 rfl (by decide) kf_RX12_195 (Or.inl rfl) (Or.inl rfl) rfl (fun hv => hv) mr4.1 ?_
      refine X_aload_n dX12_next_55 rfl ?_
      refine X_aload_n dX12_next_56 rfl ?_
      refine X_getfield (ci := 12) (k := 4) (v := vi (M4 0 4)) dX12_next_57 rfl (by decide) kf_RX12_198 (congrArg vi (MR.in_ (MR.putI mr4 (k := 5) (z := M4 0 4) (by decide)) (k := 4) (by decide) (up_ne (Or.inr (by decide))))) (MR.putI mr4 (k := 5) (z := M4 0 4) (by decide)).1 ?_
      refine X_invV (ci := 12) (as := [vi (M4 0 4)]) (st := []) okX12_at dX12_next_60 km_RX12_201 rfl rfl (Nat.le_of_ble_eq_true rfl) rfl rfl (MR.putI mr4 (k := 5) (z := M4 0 4) (by decide)).1 (CT.of d 0 0 (hcl n_at_0 rfl [M4 0 4] _ _ _ (hc5.1 c6) (MR.putI mr4 (k := 5) (z := M4 0 4) (by decide))) (Nat.le_refl _) (Nat.zero_le _) (Nat.zero_le _) (fun z7 S7 V7 hq7 => ?_))
      obtain ⟨rfl, M7, hc8, mr7, hf7⟩ := hq7
      have mf7 := MF.trans (MF.putI mf4 (k := 5) (z := M4 0 4)) hf7
      refine X_istore_n dX12_next_63 (by decide) rfl ?_
      refine X_aload_n dX12_next_64 rfl ?_
      refine X_getfield (ci := 12) (k := 4) (v := vi (M7 0 4)) dX12_next_65 rfl (by decide) kf_RX12_198 (congrArg vi (MR.in_ mr7 (k := 4) (by decide) rfl)) mr7.1 ?_
      refine X_aload_n dX12_next_68 rfl ?_
      refine X_getfield (ci := 12) (k := 2) (v := vi (M7 0 2)) dX12_next_69 rfl (by decide) kf_RX12_192 (congrArg vi (MR.in_ mr7 (k := 2) (by decide) rfl)) mr7.1 ?_
      refine X_icmp_lt dX12_next_72 (tgt := 99) rfl (fun c9 => ?_) (fun c9 => ?_)
      · refine X_iload_n dX12_next_99 rfl ?_
        refine X_invS (as := [vi z7]) (st := []) okX12_isLetter dX12_next_100 km_RX12_208 rfl rfl (Nat.le_of_ble_eq_true rfl) (CT.of d 0 0 (hcl n_isLetter_0 rfl [z7] _ _ _ (hc8.1 c9) mr7) (Nat.le_refl _) (Nat.zero_le _) (Nat.zero_le _) (fun z10 S10 V10 hq10 => ?_))
        obtain ⟨rfl, M10, hc11, mr10, hf10⟩ := hq10
        have mf10 := MF.trans mf7 hf10
        refine X_if_ne dX12_next_103 (tgt := 113) rfl (fun c12 => ?_) (fun c12 => ?_)
        · refine X_iconst dX12_next_113 (by decide) ?_
          refine X_istore_n dX12_next_114 (by decide) rfl ?_
          exact hrc n_next_115 [z7, 0] _ _ (hc11.1 c12) mr10 mf10
        · refine X_iload_n dX12_next_106 rfl ?_
          refine X_invS (as := [vi z7]) (st := []) okX12_isDigit dX12_next_107 km_RX12_212 rfl rfl (Nat.le_of_ble_eq_true rfl) (CT.of d 0 0 (hcl n_isDigit_0 rfl [z7] _ _ _ (hc11.2 c12) mr10) (Nat.le_refl _) (Nat.zero_le _) (Nat.zero_le _) (fun z13 S13 V13 hq13 => ?_))
          obtain ⟨rfl, M13, hc14, mr13, hf13⟩ := hq13
          have mf13 := MF.trans mf10 hf13
          refine X_if_eq dX12_next_110 (tgt := 296) rfl (fun c15 => ?_) (fun c15 => ?_)
          · refine X_aload_n dX12_next_296 rfl ?_
            refine X_dup dX12_next_297 (rv_cat _) ?_
            refine X_getfield (ci := 12) (k := 5) (v := vi (M13 0 5)) dX12_next_298 rfl (by decide) kf_RX12_195 (congrArg vi (MR.in_ mr13 (k := 5) (by decide) rfl)) mr13.1 ?_
            refine X_iconst dX12_next_301 (by decide) ?_
            refine X_iaddN dX12_next_302 (hc14.1 c15).1 (hc14.1 c15).2.1 ?_
            refine X_putfield (ci := 12) (k := 5) (z := ((M13 0 5) + 1)) dX12_next_303 rfl (by decide) kf_RX12_195 (Or.inl rfl) (Or.inl rfl) rfl (fun hv => hv) mr13.1 ?_
            refine X_aload_n dX12_next_306 rfl ?_
            refine X_ldcS (i := 3) dX12_next_307 (by decide) ⟨rfl, rfl⟩ ?_
            refine X_iload_n dX12_next_309 rfl ?_
            refine X_invStr (i := 3) (as := [vi z7]) (st := [vr m]) okJ0_indexOf_0f7a4 dX12_next_310 km_RX12_220 rfl rfl (Nat.le_of_ble_eq_true rfl) (by decide) rfl (CT.of 5 0 0 (cst_indexOf (by decide)) (Nat.succ_le_succ (hc14.1 c15).2.2.1) (Nat.zero_le _) (Nat.zero_le _) (fun z16 S16 V16 hq16 => ?_))
            obtain ⟨rfl, rfl, rfl⟩ := hq16
            refine X_if_lt dX12_next_313 (tgt := 320) rfl (fun c18 => ?_) (fun c18 => ?_)
            · refine X_iconst dX12_next_320 (by decide) ?_
              refine X_putfield (ci := 12) (k := 3) (z := 1) dX12_next_321 rfl (by decide) kf_RX12_205 (Or.inl rfl) (Or.inl rfl) rfl (fun hv => hv) (MR.putI mr13 (k := 5) (z := (M13 0 5) + 1) (by decide)).1 ?_
              exact X_ret (z := 0) dX12_next_324 rfl (fun _ => trivial) ⟨rfl, _, ((hc14.1 c15).2.2.2.1 c18), (MR.putI (MR.putI mr13 (k := 5) (z := (M13 0 5) + 1) (by decide)) (k := 3) (z := 1) (by decide)), (MF.putI (MF.putI mf13 (k := 5) (z := (M13 0 5) + 1)) (k := 3) (z := 1))⟩
            · refine X_iconst dX12_next_316 (by decide) ?_
              refine X_goto dX12_next_317 (tgt := 321) rfl ?_
              refine X_putfield (ci := 12) (k := 3) (z := 4) dX12_next_321 rfl (by decide) kf_RX12_205 (Or.inl rfl) (Or.inl rfl) rfl (fun hv => hv) (MR.putI mr13 (k := 5) (z := (M13 0 5) + 1) (by decide)).1 ?_
              exact X_ret (z := 0) dX12_next_324 rfl (fun _ => trivial) ⟨rfl, _, ((hc14.1 c15).2.2.2.2 c18), (MR.putI (MR.putI mr13 (k := 5) (z := (M13 0 5) + 1) (by decide)) (k := 3) (z := 4) (by decide)), (MF.putI (MF.putI mf13 (k := 5) (z := (M13 0 5) + 1)) (k := 3) (z := 4))⟩
          · refine X_iconst dX12_next_113 (by decide) ?_
            refine X_istore_n dX12_next_114 (by decide) rfl ?_
            exact hrc n_next_115 [z7, 0] _ _ (hc14.2 c15) mr13 mf13
      · refine X_aload_n dX12_next_75 rfl ?_
        refine X_aload_n dX12_next_76 rfl ?_
        refine X_getfield (ci := 12) (k := 2) (v := vi (M7 0 2)) dX12_next_77 rfl (by decide) kf_RX12_192 (congrArg vi (MR.in_ mr7 (k := 2) (by decide) rfl)) mr7.1 ?_
        refine X_putfield (ci := 12) (k := 4) (z := (M7 0 2)) dX12_next_80 rfl (by decide) kf_RX12_198 (Or.inl rfl) (Or.inl rfl) rfl (fun hv => hv) mr7.1 ?_
        refine X_aload_n dX12_next_83 rfl ?_
        refine X_aload_n dX12_next_84 rfl ?_
        refine X_getfield (ci := 12) (k := 2) (v := vi (M7 0 2)) dX12_next_85 rfl (by decide) kf_RX12_192 (congrArg vi (MR.in_ (MR.putI mr7 (k := 4) (z := M7 0 2) (by decide)) (k := 2) (by decide) (up_ne (Or.inr (by decide))))) (MR.putI mr7 (k := 4) (z := M7 0 2) (by decide)).1 ?_
        refine X_putfield (ci := 12) (k := 5) (z := (M7 0 2)) dX12_next_88 rfl (by decide) kf_RX12_195 (Or.inl rfl) (Or.inl rfl) rfl (fun hv => hv) (MR.putI mr7 (k := 4) (z := M7 0 2) (by decide)).1 ?_
        refine X_aload_n dX12_next_91 rfl ?_
        refine X_iconst dX12_next_92 (by decide) ?_
        refine X_putfield (ci := 12) (k := 3) (z := 0) dX12_next_93 rfl (by decide) kf_RX12_205 (Or.inl rfl) (Or.inl rfl) rfl (fun hv => hv) (MR.putI (MR.putI mr7 (k := 4) (z := M7 0 2) (by decide)) (k := 5) (z := M7 0 2) (by decide)).1 ?_
        refine X_goto dX12_next_96 (tgt := 324) rfl ?_
        exact X_ret (z := 0) dX12_next_324 rfl (fun _ => trivial) ⟨rfl, _, (hc8.2 c9), (MR.putI (MR.putI (MR.putI mr7 (k := 4) (z := M7 0 2) (by decide)) (k := 5) (z := M7 0 2) (by decide)) (k := 3) (z := 0) (by decide)), (MF.putI (MF.putI (MF.putI mf7 (k := 4) (z := M7 0 2)) (k := 5) (z := M7 0 2)) (k := 3) (z := 0))⟩
    · refine X_aload_n dX12_next_34 rfl ?_
      refine X_dup dX12_next_35 (rv_cat _) ?_
      refine X_getfield (ci := 12) (k := 4) (v := vi (M4 0 4)) dX12_next_36 rfl (by decide) kf_RX12_198 (congrArg vi (MR.in_ mr4 (k := 4) (by decide) rfl)) mr4.1 ?_
      refine X_iconst dX12_next_39 (by decide) ?_
      refine X_iaddN dX12_next_40 (hc5.2 c6).1 (hc5.2 c6).2.1 ?_
      refine X_putfield (ci := 12) (k := 4) (z := ((M4 0 4) + 1)) dX12_next_41 rfl (by decide) kf_RX12_198 (Or.inl rfl) (Or.inl rfl) rfl (fun hv => hv) mr4.1 ?_
      refine X_goto dX12_next_44 (tgt := 8) rfl ?_
      exact hrc n_next_8 [] _ _ (hc5.2 c6).2.2 (MR.putI mr4 (k := 4) (z := (M4 0 4) + 1) (by decide)) (MF.putI mf4 (k := 4) (z := (M4 0 4) + 1))
def B_next_115 (rc : MP) (cl : MC) (Q : Int → Mem → Prop) (d : Nat) (x1 x2 : Int) (M : Mem) : Prop := cl n_at_0 [M 0 5] M (fun z1 M1 => cl n_isLetter_0 [z1] M1 (fun z3 M3 => (z3 ≠ 0 → (x2 ≠ 0 → -2147483648 ≤ (M3 0 5) + 1 ∧ (M3 0 5) + 1 ≤ 2147483647 ∧ rc n_next_115 [x1, 1] (up M3 0 5 ((M3 0 5) + 1))) ∧ (¬ (x2 ≠ 0) → cl n_at_0 [M3 0 5] M3 (fun z7 M7 => cl n_isLetter_0 [z7] M7 (fun z9 M9 => (z9 = 0 → -2147483648 ≤ (M9 0 5) + 1 ∧ (M9 0 5) + 1 ≤ 2147483647 ∧ rc n_next_115 [x1, 0] (up M9 0 5 ((M9 0 5) + 1))) ∧ (¬ (z9 = 0) → -2147483648 ≤ (M9 0 5) + 1 ∧ (M9 0 5) + 1 ≤ 2147483647 ∧ rc n_next_115 [x1, 1] (up M9 0 5 ((M9 0 5) + 1))))))) ∧ (¬ (z3 ≠ 0) → cl n_at_0 [M3 0 5] M3 (fun z12 M12 => cl n_isDigit_0 [z12] M12 (fun z14 M14 => (z14 = 0 → cl n_isLetter_0 [x1] M14 (fun z17 M17 => (z17 = 0 → (x2 ≠ 0 → rc n_next_249 [x1, x2, z17, M17 0 4] (up (up M17 0 3 1) 0 6 0)) ∧ (¬ (x2 ≠ 0) → -2147483648 ≤ (M17 0 5) - (M17 0 4) ∧ (M17 0 5) - (M17 0 4) ≤ 2147483647 ∧ (((M17 0 5) - (M17 0 4)) ≤ 9 → rc n_next_249 [x1, x2, z17, M17 0 4] (up (up M17 0 3 3) 0 6 0)) ∧ (¬ (((M17 0 5) - (M17 0 4)) ≤ 9) → rc n_next_249 [x1, x2, z17, M17 0 4] (up (up M17 0 3 1) 0 6 0)))) ∧ (¬ (z17 = 0) → -2147483648 ≤ (M17 0 5) - (M17 0 4) ∧ (M17 0 5) - (M17 0 4) ≤ 2147483647 ∧ (((M17 0 5) - (M17 0 4)) ≤ 10 → rc n_next_249 [x1, x2, z17, M17 0 4] (up (up M17 0 3 2) 0 6 0)) ∧ (¬ (((M17 0 5) - (M17 0 4)) ≤ 10) → rc n_next_249 [x1, x2, z17, M17 0 4] (up (up M17 0 3 1) 0 6 0))))) ∧ (¬ (z14 = 0) → (x2 ≠ 0 → -2147483648 ≤ (M14 0 5) + 1 ∧ (M14 0 5) + 1 ≤ 2147483647 ∧ rc n_next_115 [x1, 1] (up M14 0 5 ((M14 0 5) + 1))) ∧ (¬ (x2 ≠ 0) → cl n_at_0 [M14 0 5] M14 (fun z24 M24 => cl n_isLetter_0 [z24] M24 (fun z26 M26 => (z26 = 0 → -2147483648 ≤ (M26 0 5) + 1 ∧ (M26 0 5) + 1 ≤ 2147483647 ∧ rc n_next_115 [x1, 0] (up M26 0 5 ((M26 0 5) + 1))) ∧ (¬ (z26 = 0) → -2147483648 ≤ (M26 0 5) + 1 ∧ (M26 0 5) + 1 ≤ 2147483647 ∧ rc n_next_115 [x1, 1] (up M26 0 5 ((M26 0 5) + 1))))))))))))
set_option maxRecDepth 10000 in
theorem s_next_115 {l : Launch} {G : GT} {m : Int} {a : Int → Int} {d mc ms : Nat} {S : Sh} {Q : Int → Mem → Prop} {rc : MP} {cl : MC} {V0 V M : Mem} {x1 x2 : Int} (hrc : RCok l G m a S V0 Q d mc ms rc) (hcl : CLok l G m a S d cl) (mr : MR m a S V M) (mf : MF m a V0 V) (hB : B_next_115 rc cl Q d x1 x2 M) : XJ l G bX12_next (Qm m a S V0 Q) (d + 1) 115 [vr m, vi x1, vi x2, vu, vu] [] S V mc ms := by
  unfold B_next_115 at hB
  refine X_aload_n dX12_next_115 rfl ?_
  refine X_aload_n dX12_next_116 rfl ?_
  refine X_getfield (ci := 12) (k := 5) (v := vi (M 0 5)) dX12_next_117 rfl (by decide) kf_RX12_195 (congrArg vi (MR.in_ mr (k := 5) (by decide) rfl)) mr.1 ?_
  refine X_invV (ci := 12) (as := [vi (M 0 5)]) (st := []) okX12_at dX12_next_120 km_RX12_201 rfl rfl (Nat.le_of_ble_eq_true rfl) rfl rfl mr.1 (CT.of d 0 0 (hcl n_at_0 rfl [M 0 5] _ _ _ hB mr) (Nat.le_refl _) (Nat.zero_le _) (Nat.zero_le _) (fun z1 S1 V1 hq1 => ?_))
  obtain ⟨rfl, M1, hc2, mr1, hf1⟩ := hq1
  have mf1 := MF.trans mf hf1
  refine X_invS (as := [vi z1]) (st := []) okX12_isLetter dX12_next_123 km_RX12_208 rfl rfl (Nat.le_of_ble_eq_true rfl) (CT.of d 0 0 (hcl n_isLetter_0 rfl [z1] _ _ _ hc2 mr1) (Nat.le_refl _) (Nat.zero_le _) (Nat.zero_le _) (fun z3 S3 V3 hq3 => ?_))
  obtain ⟨rfl, M3, hc4, mr3, hf3⟩ := hq3
  have mf3 := MF.trans mf1 hf3
  refine X_if_ne dX12_next_126 (tgt := 143) rfl (fun c5 => ?_) (fun c5 => ?_)
  · refine X_iload_n dX12_next_143 rfl ?_
    refine X_if_ne dX12_next_144 (tgt := 161) rfl (fun c6 => ?_) (fun c6 => ?_)
    · refine X_iconst dX12_next_161 (by decide) ?_
      refine X_goto dX12_next_162 (tgt := 166) rfl ?_
      refine X_istore_n dX12_next_166 (by decide) rfl ?_
      refine X_aload_n dX12_next_167 rfl ?_
      refine X_dup dX12_next_168 (rv_cat _) ?_
      refine X_getfield (ci := 12) (k := 5) (v := vi (M3 0 5)) dX12_next_169 rfl (by decide) kf_RX12_195 (congrArg vi (MR.in_ mr3 (k := 5) (by decide) rfl)) mr3.1 ?_
      refine X_iconst dX12_next_172 (by decide) ?_
      refine X_iaddN dX12_next_173 ((hc4.1 c5).1 c6).1 ((hc4.1 c5).1 c6).2.1 ?_
      refine X_putfield (ci := 12) (k := 5) (z := ((M3 0 5) + 1)) dX12_next_174 rfl (by decide) kf_RX12_195 (Or.inl rfl) (Or.inl rfl) rfl (fun hv => hv) mr3.1 ?_
      refine X_goto dX12_next_177 (tgt := 115) rfl ?_
      exact hrc n_next_115 [x1, 1] _ _ ((hc4.1 c5).1 c6).2.2 (MR.putI mr3 (k := 5) (z := (M3 0 5) + 1) (by decide)) (MF.putI mf3 (k := 5) (z := (M3 0 5) + 1))
    · refine X_aload_n dX12_next_147 rfl ?_
      refine X_aload_n dX12_next_148 rfl ?_
      refine X_getfield (ci := 12) (k := 5) (v := vi (M3 0 5)) dX12_next_149 rfl (by decide) kf_RX12_195 (congrArg vi (MR.in_ mr3 (k := 5) (by decide) rfl)) mr3.1 ?_
      refine X_invV (ci := 12) (as := [vi (M3 0 5)]) (st := []) okX12_at dX12_next_152 km_RX12_201 rfl rfl (Nat.le_of_ble_eq_true rfl) rfl rfl mr3.1 (CT.of d 0 0 (hcl n_at_0 rfl [M3 0 5] _ _ _ ((hc4.1 c5).2 c6) mr3) (Nat.le_refl _) (Nat.zero_le _) (Nat.zero_le _) (fun z7 S7 V7 hq7 => ?_))
      obtain ⟨rfl, M7, hc8, mr7, hf7⟩ := hq7
      have mf7 := MF.trans mf3 hf7
      refine X_invS (as := [vi z7]) (st := []) okX12_isLetter dX12_next_155 km_RX12_208 rfl rfl (Nat.le_of_ble_eq_true rfl) (CT.of d 0 0 (hcl n_isLetter_0 rfl [z7] _ _ _ hc8 mr7) (Nat.le_refl _) (Nat.zero_le _) (Nat.zero_le _) (fun z9 S9 V9 hq9 => ?_))
      obtain ⟨rfl, M9, hc10, mr9, hf9⟩ := hq9
      have mf9 := MF.trans mf7 hf9
      refine X_if_eq dX12_next_158 (tgt := 165) rfl (fun c11 => ?_) (fun c11 => ?_)
      · refine X_iconst dX12_next_165 (by decide) ?_
        refine X_istore_n dX12_next_166 (by decide) rfl ?_
        refine X_aload_n dX12_next_167 rfl ?_
        refine X_dup dX12_next_168 (rv_cat _) ?_
        refine X_getfield (ci := 12) (k := 5) (v := vi (M9 0 5)) dX12_next_169 rfl (by decide) kf_RX12_195 (congrArg vi (MR.in_ mr9 (k := 5) (by decide) rfl)) mr9.1 ?_
        refine X_iconst dX12_next_172 (by decide) ?_
        refine X_iaddN dX12_next_173 (hc10.1 c11).1 (hc10.1 c11).2.1 ?_
        refine X_putfield (ci := 12) (k := 5) (z := ((M9 0 5) + 1)) dX12_next_174 rfl (by decide) kf_RX12_195 (Or.inl rfl) (Or.inl rfl) rfl (fun hv => hv) mr9.1 ?_
        refine X_goto dX12_next_177 (tgt := 115) rfl ?_
        exact hrc n_next_115 [x1, 0] _ _ (hc10.1 c11).2.2 (MR.putI mr9 (k := 5) (z := (M9 0 5) + 1) (by decide)) (MF.putI mf9 (k := 5) (z := (M9 0 5) + 1))
      · refine X_iconst dX12_next_161 (by decide) ?_
        refine X_goto dX12_next_162 (tgt := 166) rfl ?_
        refine X_istore_n dX12_next_166 (by decide) rfl ?_
        refine X_aload_n dX12_next_167 rfl ?_
        refine X_dup dX12_next_168 (rv_cat _) ?_
        refine X_getfield (ci := 12) (k := 5) (v := vi (M9 0 5)) dX12_next_169 rfl (by decide) kf_RX12_195 (congrArg vi (MR.in_ mr9 (k := 5) (by decide) rfl)) mr9.1 ?_
        refine X_iconst dX12_next_172 (by decide) ?_
        refine X_iaddN dX12_next_173 (hc10.2 c11).1 (hc10.2 c11).2.1 ?_
        refine X_putfield (ci := 12) (k := 5) (z := ((M9 0 5) + 1)) dX12_next_174 rfl (by decide) kf_RX12_195 (Or.inl rfl) (Or.inl rfl) rfl (fun hv => hv) mr9.1 ?_
        refine X_goto dX12_next_177 (tgt := 115) rfl ?_
        exact hrc n_next_115 [x1, 1] _ _ (hc10.2 c11).2.2 (MR.putI mr9 (k := 5) (z := (M9 0 5) + 1) (by decide)) (MF.putI mf9 (k := 5) (z := (M9 0 5) + 1))
  · refine X_aload_n dX12_next_129 rfl ?_
    refine X_aload_n dX12_next_130 rfl ?_
    refine X_getfield (ci := 12) (k := 5) (v := vi (M3 0 5)) dX12_next_131 rfl (by decide) kf_RX12_195 (congrArg vi (MR.in_ mr3 (k := 5) (by decide) rfl)) mr3.1 ?_
    refine X_invV (ci := 12) (as := [vi (M3 0 5)]) (st := []) okX12_at dX12_next_134 km_RX12_201 rfl rfl (Nat.le_of_ble_eq_true rfl) rfl rfl mr3.1 (CT.of d 0 0 (hcl n_at_0 rfl [M3 0 5] _ _ _ (hc4.2 c5) mr3) (Nat.le_refl _) (Nat.zero_le _) (Nat.zero_le _) (fun z12 S12 V12 hq12 => ?_))
    obtain ⟨rfl, M12, hc13, mr12, hf12⟩ := hq12
    have mf12 := MF.trans mf3 hf12
    refine X_invS (as := [vi z12]) (st := []) okX12_isDigit dX12_next_137 km_RX12_212 rfl rfl (Nat.le_of_ble_eq_true rfl) (CT.of d 0 0 (hcl n_isDigit_0 rfl [z12] _ _ _ hc13 mr12) (Nat.le_refl _) (Nat.zero_le _) (Nat.zero_le _) (fun z14 S14 V14 hq14 => ?_))
    obtain ⟨rfl, M14, hc15, mr14, hf14⟩ := hq14
    have mf14 := MF.trans mf12 hf14
    refine X_if_eq dX12_next_140 (tgt := 180) rfl (fun c16 => ?_) (fun c16 => ?_)
    · refine X_iload_n dX12_next_180 rfl ?_
      refine X_invS (as := [vi x1]) (st := []) okX12_isLetter dX12_next_181 km_RX12_208 rfl rfl (Nat.le_of_ble_eq_true rfl) (CT.of d 0 0 (hcl n_isLetter_0 rfl [x1] _ _ _ (hc15.1 c16) mr14) (Nat.le_refl _) (Nat.zero_le _) (Nat.zero_le _) (fun z17 S17 V17 hq17 => ?_))
      obtain ⟨rfl, M17, hc18, mr17, hf17⟩ := hq17
      have mf17 := MF.trans mf14 hf17
      refine X_istore_n dX12_next_184 (by decide) rfl ?_
      refine X_aload_n dX12_next_185 rfl ?_
      refine X_iload_n dX12_next_186 rfl ?_
      refine X_if_eq dX12_next_187 (tgt := 212) rfl (fun c19 => ?_) (fun c19 => ?_)
      · refine X_iload_n dX12_next_212 rfl ?_
        refine X_if_ne dX12_next_213 (tgt := 230) rfl (fun c20 => ?_) (fun c20 => ?_)
        · refine X_iconst dX12_next_230 (by decide) ?_
          refine X_goto dX12_next_231 (tgt := 235) rfl ?_
          refine X_putfield (ci := 12) (k := 3) (z := 1) dX12_next_235 rfl (by decide) kf_RX12_205 (Or.inl rfl) (Or.inl rfl) rfl (fun hv => hv) mr17.1 ?_
          refine X_aload_n dX12_next_238 rfl ?_
          refine X_iconst dX12_next_239 (by decide) ?_
          refine X_putfield (ci := 12) (k := 6) (z := 0) dX12_next_240 rfl (by decide) kf_RX12_215 (Or.inl rfl) (Or.inl rfl) rfl (fun hv => hv) (MR.putI mr17 (k := 3) (z := 1) (by decide)).1 ?_
          refine X_aload_n dX12_next_243 rfl ?_
          refine X_getfield (ci := 12) (k := 4) (v := vi (M17 0 4)) dX12_next_244 rfl (by decide) kf_RX12_198 (congrArg vi (MR.in_ (MR.putI (MR.putI mr17 (k := 3) (z := 1) (by decide)) (k := 6) (z := 0) (by decide)) (k := 4) (by decide) ((up_ne (Or.inr (by decide))).trans (up_ne (Or.inr (by decide)))))) (MR.putI (MR.putI mr17 (k := 3) (z := 1) (by decide)) (k := 6) (z := 0) (by decide)).1 ?_
          refine X_istore dX12_next_247 (by decide) rfl ?_
          exact hrc n_next_249 [x1, x2, z17, M17 0 4] _ _ ((hc18.1 c19).1 c20) (MR.putI (MR.putI mr17 (k := 3) (z := 1) (by decide)) (k := 6) (z := 0) (by decide)) (MF.putI (MF.putI mf17 (k := 3) (z := 1)) (k := 6) (z := 0))
        · refine X_aload_n dX12_next_216 rfl ?_
          refine X_getfield (ci := 12) (k := 5) (v := vi (M17 0 5)) dX12_next_217 rfl (by decide) kf_RX12_195 (congrArg vi (MR.in_ mr17 (k := 5) (by decide) rfl)) mr17.1 ?_
          refine X_aload_n dX12_next_220 rfl ?_
          refine X_getfield (ci := 12) (k := 4) (v := vi (M17 0 4)) dX12_next_221 rfl (by decide) kf_RX12_198 (congrArg vi (MR.in_ mr17 (k := 4) (by decide) rfl)) mr17.1 ?_
          refine X_isubN dX12_next_224 ((hc18.1 c19).2 c20).1 ((hc18.1 c19).2 c20).2.1 ?_
          refine X_bipush dX12_next_225 (by decide) (by decide) ?_
          refine X_icmp_le dX12_next_227 (tgt := 234) rfl (fun c21 => ?_) (fun c21 => ?_)
          · refine X_iconst dX12_next_234 (by decide) ?_
            refine X_putfield (ci := 12) (k := 3) (z := 3) dX12_next_235 rfl (by decide) kf_RX12_205 (Or.inl rfl) (Or.inl rfl) rfl (fun hv => hv) mr17.1 ?_
            refine X_aload_n dX12_next_238 rfl ?_
            refine X_iconst dX12_next_239 (by decide) ?_
            refine X_putfield (ci := 12) (k := 6) (z := 0) dX12_next_240 rfl (by decide) kf_RX12_215 (Or.inl rfl) (Or.inl rfl) rfl (fun hv => hv) (MR.putI mr17 (k := 3) (z := 3) (by decide)).1 ?_
            refine X_aload_n dX12_next_243 rfl ?_
            refine X_getfield (ci := 12) (k := 4) (v := vi (M17 0 4)) dX12_next_244 rfl (by decide) kf_RX12_198 (congrArg vi (MR.in_ (MR.putI (MR.putI mr17 (k := 3) (z := 3) (by decide)) (k := 6) (z := 0) (by decide)) (k := 4) (by decide) ((up_ne (Or.inr (by decide))).trans (up_ne (Or.inr (by decide)))))) (MR.putI (MR.putI mr17 (k := 3) (z := 3) (by decide)) (k := 6) (z := 0) (by decide)).1 ?_
            refine X_istore dX12_next_247 (by decide) rfl ?_
            exact hrc n_next_249 [x1, x2, z17, M17 0 4] _ _ (((hc18.1 c19).2 c20).2.2.1 c21) (MR.putI (MR.putI mr17 (k := 3) (z := 3) (by decide)) (k := 6) (z := 0) (by decide)) (MF.putI (MF.putI mf17 (k := 3) (z := 3)) (k := 6) (z := 0))
          · refine X_iconst dX12_next_230 (by decide) ?_
            refine X_goto dX12_next_231 (tgt := 235) rfl ?_
            refine X_putfield (ci := 12) (k := 3) (z := 1) dX12_next_235 rfl (by decide) kf_RX12_205 (Or.inl rfl) (Or.inl rfl) rfl (fun hv => hv) mr17.1 ?_
            refine X_aload_n dX12_next_238 rfl ?_
            refine X_iconst dX12_next_239 (by decide) ?_
            refine X_putfield (ci := 12) (k := 6) (z := 0) dX12_next_240 rfl (by decide) kf_RX12_215 (Or.inl rfl) (Or.inl rfl) rfl (fun hv => hv) (MR.putI mr17 (k := 3) (z := 1) (by decide)).1 ?_
            refine X_aload_n dX12_next_243 rfl ?_
            refine X_getfield (ci := 12) (k := 4) (v := vi (M17 0 4)) dX12_next_244 rfl (by decide) kf_RX12_198 (congrArg vi (MR.in_ (MR.putI (MR.putI mr17 (k := 3) (z := 1) (by decide)) (k := 6) (z := 0) (by decide)) (k := 4) (by decide) ((up_ne (Or.inr (by decide))).trans (up_ne (Or.inr (by decide)))))) (MR.putI (MR.putI mr17 (k := 3) (z := 1) (by decide)) (k := 6) (z := 0) (by decide)).1 ?_
            refine X_istore dX12_next_247 (by decide) rfl ?_
            exact hrc n_next_249 [x1, x2, z17, M17 0 4] _ _ (((hc18.1 c19).2 c20).2.2.2 c21) (MR.putI (MR.putI mr17 (k := 3) (z := 1) (by decide)) (k := 6) (z := 0) (by decide)) (MF.putI (MF.putI mf17 (k := 3) (z := 1)) (k := 6) (z := 0))
      · refine X_aload_n dX12_next_190 rfl ?_
        refine X_getfield (ci := 12) (k := 5) (v := vi (M17 0 5)) dX12_next_191 rfl (by decide) kf_RX12_195 (congrArg vi (MR.in_ mr17 (k := 5) (by decide) rfl)) mr17.1 ?_
        refine X_aload_n dX12_next_194 rfl ?_
        refine X_getfield (ci := 12) (k := 4) (v := vi (M17 0 4)) dX12_next_195 rfl (by decide) kf_RX12_198 (congrArg vi (MR.in_ mr17 (k := 4) (by decide) rfl)) mr17.1 ?_
        refine X_isubN dX12_next_198 (hc18.2 c19).1 (hc18.2 c19).2.1 ?_
        refine X_bipush dX12_next_199 (by decide) (by decide) ?_
        refine X_icmp_le dX12_next_201 (tgt := 208) rfl (fun c22 => ?_) (fun c22 => ?_)
        · refine X_iconst dX12_next_208 (by decide) ?_
          refine X_goto dX12_next_209 (tgt := 235) rfl ?_
          refine X_putfield (ci := 12) (k := 3) (z := 2) dX12_next_235 rfl (by decide) kf_RX12_205 (Or.inl rfl) (Or.inl rfl) rfl (fun hv => hv) mr17.1 ?_
          refine X_aload_n dX12_next_238 rfl ?_
          refine X_iconst dX12_next_239 (by decide) ?_
          refine X_putfield (ci := 12) (k := 6) (z := 0) dX12_next_240 rfl (by decide) kf_RX12_215 (Or.inl rfl) (Or.inl rfl) rfl (fun hv => hv) (MR.putI mr17 (k := 3) (z := 2) (by decide)).1 ?_
          refine X_aload_n dX12_next_243 rfl ?_
          refine X_getfield (ci := 12) (k := 4) (v := vi (M17 0 4)) dX12_next_244 rfl (by decide) kf_RX12_198 (congrArg vi (MR.in_ (MR.putI (MR.putI mr17 (k := 3) (z := 2) (by decide)) (k := 6) (z := 0) (by decide)) (k := 4) (by decide) ((up_ne (Or.inr (by decide))).trans (up_ne (Or.inr (by decide)))))) (MR.putI (MR.putI mr17 (k := 3) (z := 2) (by decide)) (k := 6) (z := 0) (by decide)).1 ?_
          refine X_istore dX12_next_247 (by decide) rfl ?_
          exact hrc n_next_249 [x1, x2, z17, M17 0 4] _ _ ((hc18.2 c19).2.2.1 c22) (MR.putI (MR.putI mr17 (k := 3) (z := 2) (by decide)) (k := 6) (z := 0) (by decide)) (MF.putI (MF.putI mf17 (k := 3) (z := 2)) (k := 6) (z := 0))
        · refine X_iconst dX12_next_204 (by decide) ?_
          refine X_goto dX12_next_205 (tgt := 235) rfl ?_
          refine X_putfield (ci := 12) (k := 3) (z := 1) dX12_next_235 rfl (by decide) kf_RX12_205 (Or.inl rfl) (Or.inl rfl) rfl (fun hv => hv) mr17.1 ?_
          refine X_aload_n dX12_next_238 rfl ?_
          refine X_iconst dX12_next_239 (by decide) ?_
          refine X_putfield (ci := 12) (k := 6) (z := 0) dX12_next_240 rfl (by decide) kf_RX12_215 (Or.inl rfl) (Or.inl rfl) rfl (fun hv => hv) (MR.putI mr17 (k := 3) (z := 1) (by decide)).1 ?_
          refine X_aload_n dX12_next_243 rfl ?_
          refine X_getfield (ci := 12) (k := 4) (v := vi (M17 0 4)) dX12_next_244 rfl (by decide) kf_RX12_198 (congrArg vi (MR.in_ (MR.putI (MR.putI mr17 (k := 3) (z := 1) (by decide)) (k := 6) (z := 0) (by decide)) (k := 4) (by decide) ((up_ne (Or.inr (by decide))).trans (up_ne (Or.inr (by decide)))))) (MR.putI (MR.putI mr17 (k := 3) (z := 1) (by decide)) (k := 6) (z := 0) (by decide)).1 ?_
          refine X_istore dX12_next_247 (by decide) rfl ?_
          exact hrc n_next_249 [x1, x2, z17, M17 0 4] _ _ ((hc18.2 c19).2.2.2 c22) (MR.putI (MR.putI mr17 (k := 3) (z := 1) (by decide)) (k := 6) (z := 0) (by decide)) (MF.putI (MF.putI mf17 (k := 3) (z := 1)) (k := 6) (z := 0))
    · refine X_iload_n dX12_next_143 rfl ?_
      refine X_if_ne dX12_next_144 (tgt := 161) rfl (fun c23 => ?_) (fun c23 => ?_)
      · refine X_iconst dX12_next_161 (by decide) ?_
        refine X_goto dX12_next_162 (tgt := 166) rfl ?_
        refine X_istore_n dX12_next_166 (by decide) rfl ?_
        refine X_aload_n dX12_next_167 rfl ?_
        refine X_dup dX12_next_168 (rv_cat _) ?_
        refine X_getfield (ci := 12) (k := 5) (v := vi (M14 0 5)) dX12_next_169 rfl (by decide) kf_RX12_195 (congrArg vi (MR.in_ mr14 (k := 5) (by decide) rfl)) mr14.1 ?_
        refine X_iconst dX12_next_172 (by decide) ?_
        refine X_iaddN dX12_next_173 ((hc15.2 c16).1 c23).1 ((hc15.2 c16).1 c23).2.1 ?_
        refine X_putfield (ci := 12) (k := 5) (z := ((M14 0 5) + 1)) dX12_next_174 rfl (by decide) kf_RX12_195 (Or.inl rfl) (Or.inl rfl) rfl (fun hv => hv) mr14.1 ?_
        refine X_goto dX12_next_177 (tgt := 115) rfl ?_
        exact hrc n_next_115 [x1, 1] _ _ ((hc15.2 c16).1 c23).2.2 (MR.putI mr14 (k := 5) (z := (M14 0 5) + 1) (by decide)) (MF.putI mf14 (k := 5) (z := (M14 0 5) + 1))
      · refine X_aload_n dX12_next_147 rfl ?_
        refine X_aload_n dX12_next_148 rfl ?_
        refine X_getfield (ci := 12) (k := 5) (v := vi (M14 0 5)) dX12_next_149 rfl (by decide) kf_RX12_195 (congrArg vi (MR.in_ mr14 (k := 5) (by decide) rfl)) mr14.1 ?_
        refine X_invV (ci := 12) (as := [vi (M14 0 5)]) (st := []) okX12_at dX12_next_152 km_RX12_201 rfl rfl (Nat.le_of_ble_eq_true rfl) rfl rfl mr14.1 (CT.of d 0 0 (hcl n_at_0 rfl [M14 0 5] _ _ _ ((hc15.2 c16).2 c23) mr14) (Nat.le_refl _) (Nat.zero_le _) (Nat.zero_le _) (fun z24 S24 V24 hq24 => ?_))
        obtain ⟨rfl, M24, hc25, mr24, hf24⟩ := hq24
        have mf24 := MF.trans mf14 hf24
        refine X_invS (as := [vi z24]) (st := []) okX12_isLetter dX12_next_155 km_RX12_208 rfl rfl (Nat.le_of_ble_eq_true rfl) (CT.of d 0 0 (hcl n_isLetter_0 rfl [z24] _ _ _ hc25 mr24) (Nat.le_refl _) (Nat.zero_le _) (Nat.zero_le _) (fun z26 S26 V26 hq26 => ?_))
        obtain ⟨rfl, M26, hc27, mr26, hf26⟩ := hq26
        have mf26 := MF.trans mf24 hf26
        refine X_if_eq dX12_next_158 (tgt := 165) rfl (fun c28 => ?_) (fun c28 => ?_)
        · refine X_iconst dX12_next_165 (by decide) ?_
          refine X_istore_n dX12_next_166 (by decide) rfl ?_
          refine X_aload_n dX12_next_167 rfl ?_
          refine X_dup dX12_next_168 (rv_cat _) ?_
          refine X_getfield (ci := 12) (k := 5) (v := vi (M26 0 5)) dX12_next_169 rfl (by decide) kf_RX12_195 (congrArg vi (MR.in_ mr26 (k := 5) (by decide) rfl)) mr26.1 ?_
          refine X_iconst dX12_next_172 (by decide) ?_
          refine X_iaddN dX12_next_173 (hc27.1 c28).1 (hc27.1 c28).2.1 ?_
          refine X_putfield (ci := 12) (k := 5) (z := ((M26 0 5) + 1)) dX12_next_174 rfl (by decide) kf_RX12_195 (Or.inl rfl) (Or.inl rfl) rfl (fun hv => hv) mr26.1 ?_
          refine X_goto dX12_next_177 (tgt := 115) rfl ?_
          exact hrc n_next_115 [x1, 0] _ _ (hc27.1 c28).2.2 (MR.putI mr26 (k := 5) (z := (M26 0 5) + 1) (by decide)) (MF.putI mf26 (k := 5) (z := (M26 0 5) + 1))
        · refine X_iconst dX12_next_161 (by decide) ?_
          refine X_goto dX12_next_162 (tgt := 166) rfl ?_
          refine X_istore_n dX12_next_166 (by decide) rfl ?_
          refine X_aload_n dX12_next_167 rfl ?_
          refine X_dup dX12_next_168 (rv_cat _) ?_
          refine X_getfield (ci := 12) (k := 5) (v := vi (M26 0 5)) dX12_next_169 rfl (by decide) kf_RX12_195 (congrArg vi (MR.in_ mr26 (k := 5) (by decide) rfl)) mr26.1 ?_
          refine X_iconst dX12_next_172 (by decide) ?_
          refine X_iaddN dX12_next_173 (hc27.2 c28).1 (hc27.2 c28).2.1 ?_
          refine X_putfield (ci := 12) (k := 5) (z := ((M26 0 5) + 1)) dX12_next_174 rfl (by decide) kf_RX12_195 (Or.inl rfl) (Or.inl rfl) rfl (fun hv => hv) mr26.1 ?_
          refine X_goto dX12_next_177 (tgt := 115) rfl ?_
          exact hrc n_next_115 [x1, 1] _ _ (hc27.2 c28).2.2 (MR.putI mr26 (k := 5) (z := (M26 0 5) + 1) (by decide)) (MF.putI mf26 (k := 5) (z := (M26 0 5) + 1))
def B_next_249 (rc : MP) (cl : MC) (Q : Int → Mem → Prop) (d : Nat) (x1 x2 x3 x4 : Int) (M : Mem) : Prop := ((M 0 5) ≤ x4 → Q 0 M) ∧ (¬ ((M 0 5) ≤ x4) → ((M 0 3) ≠ 3 → Q 0 M) ∧ (¬ ((M 0 3) ≠ 3) → -2147483648 ≤ 10 * (M 0 6) ∧ 10 * (M 0 6) ≤ 2147483647 ∧ cl n_at_0 [x4] M (fun z3 M3 => -2147483648 ≤ (10 * (M 0 6)) + z3 ∧ (10 * (M 0 6)) + z3 ≤ 2147483647 ∧ -2147483648 ≤ ((10 * (M 0 6)) + z3) - 48 ∧ ((10 * (M 0 6)) + z3) - 48 ≤ 2147483647 ∧ -2147483648 ≤ x4 + 1 ∧ x4 + 1 ≤ 2147483647 ∧ rc n_next_249 [x1, x2, x3, x4 + 1] (up M3 0 6 (((10 * (M 0 6)) + z3) - 48)))))
set_option maxRecDepth 10000 in
theorem s_next_249 {l : Launch} {G : GT} {m : Int} {a : Int → Int} {d mc ms : Nat} {S : Sh} {Q : Int → Mem → Prop} {rc : MP} {cl : MC} {V0 V M : Mem} {x1 x2 x3 x4 : Int} (hrc : RCok l G m a S V0 Q d mc ms rc) (hcl : CLok l G m a S d cl) (mr : MR m a S V M) (mf : MF m a V0 V) (hB : B_next_249 rc cl Q d x1 x2 x3 x4 M) : XJ l G bX12_next (Qm m a S V0 Q) (d + 1) 249 [vr m, vi x1, vi x2, vi x3, vi x4] [] S V mc ms := by
  unfold B_next_249 at hB
  refine X_iload dX12_next_249 rfl ?_
  refine X_aload_n dX12_next_251 rfl ?_
  refine X_getfield (ci := 12) (k := 5) (v := vi (M 0 5)) dX12_next_252 rfl (by decide) kf_RX12_195 (congrArg vi (MR.in_ mr (k := 5) (by decide) rfl)) mr.1 ?_
  refine X_icmp_ge dX12_next_255 (tgt := 293) rfl (fun c1 => ?_) (fun c1 => ?_)
  · refine X_goto dX12_next_293 (tgt := 324) rfl ?_
    exact X_ret (z := 0) dX12_next_324 rfl (fun _ => trivial) ⟨rfl, _, (hB.1 c1), mr, mf⟩
  · refine X_aload_n dX12_next_258 rfl ?_
    refine X_getfield (ci := 12) (k := 3) (v := vi (M 0 3)) dX12_next_259 rfl (by decide) kf_RX12_205 (congrArg vi (MR.in_ mr (k := 3) (by decide) rfl)) mr.1 ?_
    refine X_iconst dX12_next_262 (by decide) ?_
    refine X_icmp_ne dX12_next_263 (tgt := 293) rfl (fun c2 => ?_) (fun c2 => ?_)
    · refine X_goto dX12_next_293 (tgt := 324) rfl ?_
      exact X_ret (z := 0) dX12_next_324 rfl (fun _ => trivial) ⟨rfl, _, ((hB.2 c1).1 c2), mr, mf⟩
    · refine X_aload_n dX12_next_266 rfl ?_
      refine X_bipush dX12_next_267 (by decide) (by decide) ?_
      refine X_aload_n dX12_next_269 rfl ?_
      refine X_getfield (ci := 12) (k := 6) (v := vi (M 0 6)) dX12_next_270 rfl (by decide) kf_RX12_215 (congrArg vi (MR.in_ mr (k := 6) (by decide) rfl)) mr.1 ?_
      refine X_imulN dX12_next_273 ((hB.2 c1).2 c2).1 ((hB.2 c1).2 c2).2.1 ?_
      refine X_aload_n dX12_next_274 rfl ?_
      refine X_iload dX12_next_275 rfl ?_
      refine X_invV (ci := 12) (as := [vi x4]) (st := [vi (10 * (M 0 6)), vr m]) okX12_at dX12_next_277 km_RX12_201 rfl rfl (Nat.le_of_ble_eq_true rfl) rfl rfl mr.1 (CT.of d 0 0 (hcl n_at_0 rfl [x4] _ _ _ ((hB.2 c1).2 c2).2.2 mr) (Nat.le_refl _) (Nat.zero_le _) (Nat.zero_le _) (fun z3 S3 V3 hq3 => ?_))
      obtain ⟨rfl, M3, hc4, mr3, hf3⟩ := hq3
      have mf3 := MF.trans mf hf3
      refine X_iaddN dX12_next_280 hc4.1 hc4.2.1 ?_
      refine X_bipush dX12_next_281 (by decide) (by decide) ?_
      refine X_isubN dX12_next_283 hc4.2.2.1 hc4.2.2.2.1 ?_
      refine X_putfield (ci := 12) (k := 6) (z := (((10 * (M 0 6)) + z3) - 48)) dX12_next_284 rfl (by decide) kf_RX12_215 (Or.inl rfl) (Or.inl rfl) rfl (fun hv => hv) mr3.1 ?_
      refine X_iincN dX12_next_287 rfl (by decide) rfl (e := x4 + 1) rfl hc4.2.2.2.2.1 hc4.2.2.2.2.2.1 ?_
      refine X_goto dX12_next_290 (tgt := 249) rfl ?_
      exact hrc n_next_249 [x1, x2, x3, x4 + 1] _ _ hc4.2.2.2.2.2.2 (MR.putI mr3 (k := 6) (z := ((10 * (M 0 6)) + z3) - 48) (by decide)) (MF.putI mf3 (k := 6) (z := ((10 * (M 0 6)) + z3) - 48))
def B_isSign_0 (rc : MP) (cl : MC) (Q : Int → Mem → Prop) (d : Nat) (x1 : Int) (M : Mem) : Prop := ((M 0 3) ≠ 4 → Q 0 M) ∧ (¬ ((M 0 3) ≠ 4) → cl n_at_0 [M 0 4] M (fun z2 M2 => (z2 ≠ x1 → Q 0 M2) ∧ (¬ (z2 ≠ x1) → Q 1 M2)))
set_option maxRecDepth 10000 in
theorem s_isSign_0 {l : Launch} {G : GT} {m : Int} {a : Int → Int} {d mc ms : Nat} {S : Sh} {Q : Int → Mem → Prop} {rc : MP} {cl : MC} {V0 V M : Mem} {x1 : Int} (hrc : RCok l G m a S V0 Q d mc ms rc) (hcl : CLok l G m a S d cl) (mr : MR m a S V M) (mf : MF m a V0 V) (hB : B_isSign_0 rc cl Q d x1 M) : XJ l G bX12_isSign (Qm m a S V0 Q) (d + 1) 0 [vr m, vi x1] [] S V mc ms := by
  unfold B_isSign_0 at hB
  refine X_aload_n dX12_isSign_0 rfl ?_
  refine X_getfield (ci := 12) (k := 3) (v := vi (M 0 3)) dX12_isSign_1 rfl (by decide) kf_RX12_205 (congrArg vi (MR.in_ mr (k := 3) (by decide) rfl)) mr.1 ?_
  refine X_iconst dX12_isSign_4 (by decide) ?_
  refine X_icmp_ne dX12_isSign_5 (tgt := 24) rfl (fun c1 => ?_) (fun c1 => ?_)
  · refine X_iconst dX12_isSign_24 (by decide) ?_
    exact X_ret (z := 0) dX12_isSign_25 rfl (fun _ => Or.inl rfl) ⟨rfl, _, (hB.1 c1), mr, mf⟩
  · refine X_aload_n dX12_isSign_8 rfl ?_
    refine X_aload_n dX12_isSign_9 rfl ?_
    refine X_getfield (ci := 12) (k := 4) (v := vi (M 0 4)) dX12_isSign_10 rfl (by decide) kf_RX12_198 (congrArg vi (MR.in_ mr (k := 4) (by decide) rfl)) mr.1 ?_
    refine X_invV (ci := 12) (as := [vi (M 0 4)]) (st := []) okX12_at dX12_isSign_13 km_RX12_201 rfl rfl (Nat.le_of_ble_eq_true rfl) rfl rfl mr.1 (CT.of d 0 0 (hcl n_at_0 rfl [M 0 4] _ _ _ (hB.2 c1) mr) (Nat.le_refl _) (Nat.zero_le _) (Nat.zero_le _) (fun z2 S2 V2 hq2 => ?_))
    obtain ⟨rfl, M2, hc3, mr2, hf2⟩ := hq2
    have mf2 := MF.trans mf hf2
    refine X_iload_n dX12_isSign_16 rfl ?_
    refine X_icmp_ne dX12_isSign_17 (tgt := 24) rfl (fun c4 => ?_) (fun c4 => ?_)
    · refine X_iconst dX12_isSign_24 (by decide) ?_
      exact X_ret (z := 0) dX12_isSign_25 rfl (fun _ => Or.inl rfl) ⟨rfl, _, (hc3.1 c4), mr2, mf2⟩
    · refine X_iconst dX12_isSign_20 (by decide) ?_
      refine X_goto dX12_isSign_21 (tgt := 25) rfl ?_
      exact X_ret (z := 1) dX12_isSign_25 rfl (fun _ => Or.inr rfl) ⟨rfl, _, (hc3.2 c4), mr2, mf2⟩
def B_isWord_0 (rc : MP) (cl : MC) (Q : Int → Mem → Prop) (d : Nat) (x1 : Int) (M : Mem) : Prop := ((M 0 3) ≠ 2 → rc n_isWord_32 [x1, 0, 0] M) ∧ (¬ ((M 0 3) ≠ 2) → -2147483648 ≤ (M 0 5) - (M 0 4) ∧ (M 0 5) - (M 0 4) ≤ 2147483647 ∧ 5 ≤ d ∧ x1.toNat < 16 ∧ (((M 0 5) - (M 0 4)) ≠ ((js_len.getD x1.toNat 0 : Nat) : Int) → rc n_isWord_32 [x1, 0, 0] M) ∧ (¬ (((M 0 5) - (M 0 4)) ≠ ((js_len.getD x1.toNat 0 : Nat) : Int)) → rc n_isWord_32 [x1, 1, 0] M))
set_option maxRecDepth 10000 in
theorem s_isWord_0 {l : Launch} {G : GT} {m : Int} {a : Int → Int} {d mc ms : Nat} {S : Sh} {Q : Int → Mem → Prop} {rc : MP} {cl : MC} {V0 V M : Mem} {x1 : Int} (hrc : RCok l G m a S V0 Q d mc ms rc) (hcl : CLok l G m a S d cl) (mr : MR m a S V M) (mf : MF m a V0 V) (hB : B_isWord_0 rc cl Q d x1 M) : XJ l G bX12_isWord (Qm m a S V0 Q) (d + 1) 0 [vr m, vr ((G.2.2.2.1 x1.toNat : Int) + 1), vu, vu] [] S V mc ms := by
  unfold B_isWord_0 at hB
  refine X_aload_n dX12_isWord_0 rfl ?_
  refine X_getfield (ci := 12) (k := 3) (v := vi (M 0 3)) dX12_isWord_1 rfl (by decide) kf_RX12_205 (congrArg vi (MR.in_ mr (k := 3) (by decide) rfl)) mr.1 ?_
  refine X_iconst dX12_isWord_4 (by decide) ?_
  refine X_icmp_ne dX12_isWord_5 (tgt := 28) rfl (fun c1 => ?_) (fun c1 => ?_)
  · refine X_iconst dX12_isWord_28 (by decide) ?_
    refine X_istore_n dX12_isWord_29 (by decide) rfl ?_
    refine X_iconst dX12_isWord_30 (by decide) ?_
    refine X_istore_n dX12_isWord_31 (by decide) rfl ?_
    exact hrc n_isWord_32 [x1, 0, 0] _ _ (hB.1 c1) mr mf
  · refine X_aload_n dX12_isWord_8 rfl ?_
    refine X_getfield (ci := 12) (k := 5) (v := vi (M 0 5)) dX12_isWord_9 rfl (by decide) kf_RX12_195 (congrArg vi (MR.in_ mr (k := 5) (by decide) rfl)) mr.1 ?_
    refine X_aload_n dX12_isWord_12 rfl ?_
    refine X_getfield (ci := 12) (k := 4) (v := vi (M 0 4)) dX12_isWord_13 rfl (by decide) kf_RX12_198 (congrArg vi (MR.in_ mr (k := 4) (by decide) rfl)) mr.1 ?_
    refine X_isubN dX12_isWord_16 (hB.2 c1).1 (hB.2 c1).2.1 ?_
    refine X_aload_n dX12_isWord_17 rfl ?_
    refine X_invStr (i := x1.toNat) (as := []) (st := [vi ((M 0 5) - (M 0 4))]) okJ0_length_8abf5 dX12_isWord_18 km_RX12_225 rfl rfl (Nat.le_of_ble_eq_true rfl) (hB.2 c1).2.2.2.1 rfl (CT.of 5 0 0 (cst_length (hB.2 c1).2.2.2.1) (Nat.succ_le_succ (hB.2 c1).2.2.1) (Nat.zero_le _) (Nat.zero_le _) (fun z2 S2 V2 hq2 => ?_))
    obtain ⟨rfl, rfl, rfl⟩ := hq2
    refine X_icmp_ne dX12_isWord_21 (tgt := 28) rfl (fun c4 => ?_) (fun c4 => ?_)
    · refine X_iconst dX12_isWord_28 (by decide) ?_
      refine X_istore_n dX12_isWord_29 (by decide) rfl ?_
      refine X_iconst dX12_isWord_30 (by decide) ?_
      refine X_istore_n dX12_isWord_31 (by decide) rfl ?_
      exact hrc n_isWord_32 [x1, 0, 0] _ _ ((hB.2 c1).2.2.2.2.1 c4) mr mf
    · refine X_iconst dX12_isWord_24 (by decide) ?_
      refine X_goto dX12_isWord_25 (tgt := 29) rfl ?_
      refine X_istore_n dX12_isWord_29 (by decide) rfl ?_
      refine X_iconst dX12_isWord_30 (by decide) ?_
      refine X_istore_n dX12_isWord_31 (by decide) rfl ?_
      exact hrc n_isWord_32 [x1, 1, 0] _ _ ((hB.2 c1).2.2.2.2.2 c4) mr mf
def B_isWord_32 (rc : MP) (cl : MC) (Q : Int → Mem → Prop) (d : Nat) (x1 x2 x3 : Int) (M : Mem) : Prop := 5 ≤ d ∧ x1.toNat < 16 ∧ (((js_len.getD x1.toNat 0 : Nat) : Int) ≤ x3 → (x2 = 0 ∨ x2 = 1) ∧ Q x2 M) ∧ (¬ (((js_len.getD x1.toNat 0 : Nat) : Int) ≤ x3) → (x2 = 0 → (x2 = 0 ∨ x2 = 1) ∧ Q x2 M) ∧ (¬ (x2 = 0) → -2147483648 ≤ (M 0 4) + x3 ∧ (M 0 4) + x3 ≤ 2147483647 ∧ cl n_at_0 [(M 0 4) + x3] M (fun z5 M5 => 5 ≤ d ∧ x1.toNat < 16 ∧ 0 ≤ x3 ∧ x3 < (js_len.getD x1.toNat 0 : Nat) ∧ (z5 ≠ (js_b x1.toNat (x3).toNat) → -2147483648 ≤ x3 + 1 ∧ x3 + 1 ≤ 2147483647 ∧ rc n_isWord_32 [x1, 0, x3 + 1] M5) ∧ (¬ (z5 ≠ (js_b x1.toNat (x3).toNat)) → -2147483648 ≤ x3 + 1 ∧ x3 + 1 ≤ 2147483647 ∧ rc n_isWord_32 [x1, 1, x3 + 1] M5))))
set_option maxRecDepth 10000 in
theorem s_isWord_32 {l : Launch} {G : GT} {m : Int} {a : Int → Int} {d mc ms : Nat} {S : Sh} {Q : Int → Mem → Prop} {rc : MP} {cl : MC} {V0 V M : Mem} {x1 x2 x3 : Int} (hrc : RCok l G m a S V0 Q d mc ms rc) (hcl : CLok l G m a S d cl) (mr : MR m a S V M) (mf : MF m a V0 V) (hB : B_isWord_32 rc cl Q d x1 x2 x3 M) : XJ l G bX12_isWord (Qm m a S V0 Q) (d + 1) 32 [vr m, vr ((G.2.2.2.1 x1.toNat : Int) + 1), vi x2, vi x3] [] S V mc ms := by
  unfold B_isWord_32 at hB
  refine X_iload_n dX12_isWord_32 rfl ?_
  refine X_aload_n dX12_isWord_33 rfl ?_
  refine X_invStr (i := x1.toNat) (as := []) (st := [vi x3]) okJ0_length_8abf5 dX12_isWord_34 km_RX12_225 rfl rfl (Nat.le_of_ble_eq_true rfl) hB.2.1 rfl (CT.of 5 0 0 (cst_length hB.2.1) (Nat.succ_le_succ hB.1) (Nat.zero_le _) (Nat.zero_le _) (fun z1 S1 V1 hq1 => ?_))
  obtain ⟨rfl, rfl, rfl⟩ := hq1
  refine X_icmp_ge dX12_isWord_37 (tgt := 74) rfl (fun c3 => ?_) (fun c3 => ?_)
  · refine X_iload_n dX12_isWord_74 rfl ?_
    exact X_ret (z := x2) dX12_isWord_75 rfl (fun _ => (hB.2.2.1 c3).1) ⟨rfl, _, (hB.2.2.1 c3).2, mr, mf⟩
  · refine X_iload_n dX12_isWord_40 rfl ?_
    refine X_if_eq dX12_isWord_41 (tgt := 74) rfl (fun c4 => ?_) (fun c4 => ?_)
    · refine X_iload_n dX12_isWord_74 rfl ?_
      exact X_ret (z := x2) dX12_isWord_75 rfl (fun _ => ((hB.2.2.2 c3).1 c4).1) ⟨rfl, _, ((hB.2.2.2 c3).1 c4).2, mr, mf⟩
    · refine X_aload_n dX12_isWord_44 rfl ?_
      refine X_aload_n dX12_isWord_45 rfl ?_
      refine X_getfield (ci := 12) (k := 4) (v := vi (M 0 4)) dX12_isWord_46 rfl (by decide) kf_RX12_198 (congrArg vi (MR.in_ mr (k := 4) (by decide) rfl)) mr.1 ?_
      refine X_iload_n dX12_isWord_49 rfl ?_
      refine X_iaddN dX12_isWord_50 ((hB.2.2.2 c3).2 c4).1 ((hB.2.2.2 c3).2 c4).2.1 ?_
      refine X_invV (ci := 12) (as := [vi ((M 0 4) + x3)]) (st := []) okX12_at dX12_isWord_51 km_RX12_201 rfl rfl (Nat.le_of_ble_eq_true rfl) rfl rfl mr.1 (CT.of d 0 0 (hcl n_at_0 rfl [(M 0 4) + x3] _ _ _ ((hB.2.2.2 c3).2 c4).2.2 mr) (Nat.le_refl _) (Nat.zero_le _) (Nat.zero_le _) (fun z5 S5 V5 hq5 => ?_))
      obtain ⟨rfl, M5, hc6, mr5, hf5⟩ := hq5
      have mf5 := MF.trans mf hf5
      refine X_aload_n dX12_isWord_54 rfl ?_
      refine X_iload_n dX12_isWord_55 rfl ?_
      refine X_invStr (i := x1.toNat) (as := [vi x3]) (st := [vi z5]) okJ0_charAt_5068e dX12_isWord_56 km_RX12_229 rfl rfl (Nat.le_of_ble_eq_true rfl) hc6.2.1 rfl (CT.of 5 0 0 (cst_charAt hc6.2.1 hc6.2.2.1 hc6.2.2.2.1) (Nat.succ_le_succ hc6.1) (Nat.zero_le _) (Nat.zero_le _) (fun z7 S7 V7 hq7 => ?_))
      obtain ⟨rfl, rfl, rfl⟩ := hq7
      refine X_icmp_ne dX12_isWord_59 (tgt := 66) rfl (fun c9 => ?_) (fun c9 => ?_)
      · refine X_iconst dX12_isWord_66 (by decide) ?_
        refine X_istore_n dX12_isWord_67 (by decide) rfl ?_
        refine X_iincN dX12_isWord_68 rfl (by decide) rfl (e := x3 + 1) rfl (hc6.2.2.2.2.1 c9).1 (hc6.2.2.2.2.1 c9).2.1 ?_
        refine X_goto dX12_isWord_71 (tgt := 32) rfl ?_
        exact hrc n_isWord_32 [x1, 0, x3 + 1] _ _ (hc6.2.2.2.2.1 c9).2.2 mr5 mf5
      · refine X_iconst dX12_isWord_62 (by decide) ?_
        refine X_goto dX12_isWord_63 (tgt := 67) rfl ?_
        refine X_istore_n dX12_isWord_67 (by decide) rfl ?_
        refine X_iincN dX12_isWord_68 rfl (by decide) rfl (e := x3 + 1) rfl (hc6.2.2.2.2.2 c9).1 (hc6.2.2.2.2.2 c9).2.1 ?_
        refine X_goto dX12_isWord_71 (tgt := 32) rfl ?_
        exact hrc n_isWord_32 [x1, 1, x3 + 1] _ _ (hc6.2.2.2.2.2 c9).2.2 mr5 mf5
def B_isKeyword_0 (rc : MP) (cl : MC) (Q : Int → Mem → Prop) (d : Nat) (M : Mem) : Prop := cl n_isWord_0 [4] M (fun z1 M1 => (z1 ≠ 0 → Q 1 M1) ∧ (¬ (z1 ≠ 0) → cl n_isWord_0 [5] M1 (fun z4 M4 => (z4 ≠ 0 → Q 1 M4) ∧ (¬ (z4 ≠ 0) → cl n_isWord_0 [6] M4 (fun z7 M7 => (z7 ≠ 0 → Q 1 M7) ∧ (¬ (z7 ≠ 0) → cl n_isWord_0 [7] M7 (fun z10 M10 => (z10 ≠ 0 → Q 1 M10) ∧ (¬ (z10 ≠ 0) → cl n_isWord_0 [8] M10 (fun z13 M13 => (z13 ≠ 0 → Q 1 M13) ∧ (¬ (z13 ≠ 0) → cl n_isWord_0 [9] M13 (fun z16 M16 => (z16 ≠ 0 → Q 1 M16) ∧ (¬ (z16 ≠ 0) → cl n_isWord_0 [10] M16 (fun z19 M19 => (z19 ≠ 0 → Q 1 M19) ∧ (¬ (z19 ≠ 0) → cl n_isWord_0 [11] M19 (fun z22 M22 => (z22 ≠ 0 → Q 1 M22) ∧ (¬ (z22 ≠ 0) → cl n_isWord_0 [12] M22 (fun z25 M25 => (z25 ≠ 0 → Q 1 M25) ∧ (¬ (z25 ≠ 0) → cl n_isWord_0 [13] M25 (fun z28 M28 => (z28 ≠ 0 → Q 1 M28) ∧ (¬ (z28 ≠ 0) → cl n_isWord_0 [14] M28 (fun z31 M31 => (z31 ≠ 0 → Q 1 M31) ∧ (¬ (z31 ≠ 0) → cl n_isWord_0 [15] M31 (fun z34 M34 => (z34 = 0 → Q 0 M34) ∧ (¬ (z34 = 0) → Q 1 M34))))))))))))))))))))))))
set_option maxRecDepth 10000 in
theorem s_isKeyword_0 {l : Launch} {G : GT} {m : Int} {a : Int → Int} {d mc ms : Nat} {S : Sh} {Q : Int → Mem → Prop} {rc : MP} {cl : MC} {V0 V M : Mem} (hrc : RCok l G m a S V0 Q d mc ms rc) (hcl : CLok l G m a S d cl) (mr : MR m a S V M) (mf : MF m a V0 V) (hB : B_isKeyword_0 rc cl Q d  M) : XJ l G bX12_isKeyword (Qm m a S V0 Q) (d + 1) 0 [vr m] [] S V mc ms := by
  unfold B_isKeyword_0 at hB
  refine X_aload_n dX12_isKeyword_0 rfl ?_
  refine X_ldcS (i := 4) dX12_isKeyword_1 (by decide) ⟨rfl, rfl⟩ ?_
  refine X_invV (ci := 12) (as := [vr ((G.2.2.2.1 4 : Int) + 1)]) (st := []) okX12_isWord dX12_isKeyword_3 km_RX12_235 rfl rfl (Nat.le_of_ble_eq_true rfl) rfl rfl mr.1 (CT.of d 0 0 (hcl n_isWord_0 rfl [4] _ _ _ hB mr) (Nat.le_refl _) (Nat.zero_le _) (Nat.zero_le _) (fun z1 S1 V1 hq1 => ?_))
  obtain ⟨rfl, M1, hc2, mr1, hf1⟩ := hq1
  have mf1 := MF.trans mf hf1
  refine X_if_ne dX12_isKeyword_6 (tgt := 109) rfl (fun c3 => ?_) (fun c3 => ?_)
  · refine X_iconst dX12_isKeyword_109 (by decide) ?_
    refine X_goto dX12_isKeyword_110 (tgt := 114) rfl ?_
    exact X_ret (z := 1) dX12_isKeyword_114 rfl (fun _ => Or.inr rfl) ⟨rfl, _, (hc2.1 c3), mr1, mf1⟩
  · refine X_aload_n dX12_isKeyword_9 rfl ?_
    refine X_ldcS (i := 5) dX12_isKeyword_10 (by decide) ⟨rfl, rfl⟩ ?_
    refine X_invV (ci := 12) (as := [vr ((G.2.2.2.1 5 : Int) + 1)]) (st := []) okX12_isWord dX12_isKeyword_12 km_RX12_235 rfl rfl (Nat.le_of_ble_eq_true rfl) rfl rfl mr1.1 (CT.of d 0 0 (hcl n_isWord_0 rfl [5] _ _ _ (hc2.2 c3) mr1) (Nat.le_refl _) (Nat.zero_le _) (Nat.zero_le _) (fun z4 S4 V4 hq4 => ?_))
    obtain ⟨rfl, M4, hc5, mr4, hf4⟩ := hq4
    have mf4 := MF.trans mf1 hf4
    refine X_if_ne dX12_isKeyword_15 (tgt := 109) rfl (fun c6 => ?_) (fun c6 => ?_)
    · refine X_iconst dX12_isKeyword_109 (by decide) ?_
      refine X_goto dX12_isKeyword_110 (tgt := 114) rfl ?_
      exact X_ret (z := 1) dX12_isKeyword_114 rfl (fun _ => Or.inr rfl) ⟨rfl, _, (hc5.1 c6), mr4, mf4⟩
    · refine X_aload_n dX12_isKeyword_18 rfl ?_
      refine X_ldcS (i := 6) dX12_isKeyword_19 (by decide) ⟨rfl, rfl⟩ ?_
      refine X_invV (ci := 12) (as := [vr ((G.2.2.2.1 6 : Int) + 1)]) (st := []) okX12_isWord dX12_isKeyword_21 km_RX12_235 rfl rfl (Nat.le_of_ble_eq_true rfl) rfl rfl mr4.1 (CT.of d 0 0 (hcl n_isWord_0 rfl [6] _ _ _ (hc5.2 c6) mr4) (Nat.le_refl _) (Nat.zero_le _) (Nat.zero_le _) (fun z7 S7 V7 hq7 => ?_))
      obtain ⟨rfl, M7, hc8, mr7, hf7⟩ := hq7
      have mf7 := MF.trans mf4 hf7
      refine X_if_ne dX12_isKeyword_24 (tgt := 109) rfl (fun c9 => ?_) (fun c9 => ?_)
      · refine X_iconst dX12_isKeyword_109 (by decide) ?_
        refine X_goto dX12_isKeyword_110 (tgt := 114) rfl ?_
        exact X_ret (z := 1) dX12_isKeyword_114 rfl (fun _ => Or.inr rfl) ⟨rfl, _, (hc8.1 c9), mr7, mf7⟩
      · refine X_aload_n dX12_isKeyword_27 rfl ?_
        refine X_ldcS (i := 7) dX12_isKeyword_28 (by decide) ⟨rfl, rfl⟩ ?_
        refine X_invV (ci := 12) (as := [vr ((G.2.2.2.1 7 : Int) + 1)]) (st := []) okX12_isWord dX12_isKeyword_30 km_RX12_235 rfl rfl (Nat.le_of_ble_eq_true rfl) rfl rfl mr7.1 (CT.of d 0 0 (hcl n_isWord_0 rfl [7] _ _ _ (hc8.2 c9) mr7) (Nat.le_refl _) (Nat.zero_le _) (Nat.zero_le _) (fun z10 S10 V10 hq10 => ?_))
        obtain ⟨rfl, M10, hc11, mr10, hf10⟩ := hq10
        have mf10 := MF.trans mf7 hf10
        refine X_if_ne dX12_isKeyword_33 (tgt := 109) rfl (fun c12 => ?_) (fun c12 => ?_)
        · refine X_iconst dX12_isKeyword_109 (by decide) ?_
          refine X_goto dX12_isKeyword_110 (tgt := 114) rfl ?_
          exact X_ret (z := 1) dX12_isKeyword_114 rfl (fun _ => Or.inr rfl) ⟨rfl, _, (hc11.1 c12), mr10, mf10⟩
        · refine X_aload_n dX12_isKeyword_36 rfl ?_
          refine X_ldcS (i := 8) dX12_isKeyword_37 (by decide) ⟨rfl, rfl⟩ ?_
          refine X_invV (ci := 12) (as := [vr ((G.2.2.2.1 8 : Int) + 1)]) (st := []) okX12_isWord dX12_isKeyword_39 km_RX12_235 rfl rfl (Nat.le_of_ble_eq_true rfl) rfl rfl mr10.1 (CT.of d 0 0 (hcl n_isWord_0 rfl [8] _ _ _ (hc11.2 c12) mr10) (Nat.le_refl _) (Nat.zero_le _) (Nat.zero_le _) (fun z13 S13 V13 hq13 => ?_))
          obtain ⟨rfl, M13, hc14, mr13, hf13⟩ := hq13
          have mf13 := MF.trans mf10 hf13
          refine X_if_ne dX12_isKeyword_42 (tgt := 109) rfl (fun c15 => ?_) (fun c15 => ?_)
          · refine X_iconst dX12_isKeyword_109 (by decide) ?_
            refine X_goto dX12_isKeyword_110 (tgt := 114) rfl ?_
            exact X_ret (z := 1) dX12_isKeyword_114 rfl (fun _ => Or.inr rfl) ⟨rfl, _, (hc14.1 c15), mr13, mf13⟩
          · refine X_aload_n dX12_isKeyword_45 rfl ?_
            refine X_ldcS (i := 9) dX12_isKeyword_46 (by decide) ⟨rfl, rfl⟩ ?_
            refine X_invV (ci := 12) (as := [vr ((G.2.2.2.1 9 : Int) + 1)]) (st := []) okX12_isWord dX12_isKeyword_48 km_RX12_235 rfl rfl (Nat.le_of_ble_eq_true rfl) rfl rfl mr13.1 (CT.of d 0 0 (hcl n_isWord_0 rfl [9] _ _ _ (hc14.2 c15) mr13) (Nat.le_refl _) (Nat.zero_le _) (Nat.zero_le _) (fun z16 S16 V16 hq16 => ?_))
            obtain ⟨rfl, M16, hc17, mr16, hf16⟩ := hq16
            have mf16 := MF.trans mf13 hf16
            refine X_if_ne dX12_isKeyword_51 (tgt := 109) rfl (fun c18 => ?_) (fun c18 => ?_)
            · refine X_iconst dX12_isKeyword_109 (by decide) ?_
              refine X_goto dX12_isKeyword_110 (tgt := 114) rfl ?_
              exact X_ret (z := 1) dX12_isKeyword_114 rfl (fun _ => Or.inr rfl) ⟨rfl, _, (hc17.1 c18), mr16, mf16⟩
            · refine X_aload_n dX12_isKeyword_54 rfl ?_
              refine X_ldcS (i := 10) dX12_isKeyword_55 (by decide) ⟨rfl, rfl⟩ ?_
              refine X_invV (ci := 12) (as := [vr ((G.2.2.2.1 10 : Int) + 1)]) (st := []) okX12_isWord dX12_isKeyword_57 km_RX12_235 rfl rfl (Nat.le_of_ble_eq_true rfl) rfl rfl mr16.1 (CT.of d 0 0 (hcl n_isWord_0 rfl [10] _ _ _ (hc17.2 c18) mr16) (Nat.le_refl _) (Nat.zero_le _) (Nat.zero_le _) (fun z19 S19 V19 hq19 => ?_))
              obtain ⟨rfl, M19, hc20, mr19, hf19⟩ := hq19
              have mf19 := MF.trans mf16 hf19
              refine X_if_ne dX12_isKeyword_60 (tgt := 109) rfl (fun c21 => ?_) (fun c21 => ?_)
              · refine X_iconst dX12_isKeyword_109 (by decide) ?_
                refine X_goto dX12_isKeyword_110 (tgt := 114) rfl ?_
                exact X_ret (z := 1) dX12_isKeyword_114 rfl (fun _ => Or.inr rfl) ⟨rfl, _, (hc20.1 c21), mr19, mf19⟩
              · refine X_aload_n dX12_isKeyword_63 rfl ?_
                refine X_ldcS (i := 11) dX12_isKeyword_64 (by decide) ⟨rfl, rfl⟩ ?_
                refine X_invV (ci := 12) (as := [vr ((G.2.2.2.1 11 : Int) + 1)]) (st := []) okX12_isWord dX12_isKeyword_66 km_RX12_235 rfl rfl (Nat.le_of_ble_eq_true rfl) rfl rfl mr19.1 (CT.of d 0 0 (hcl n_isWord_0 rfl [11] _ _ _ (hc20.2 c21) mr19) (Nat.le_refl _) (Nat.zero_le _) (Nat.zero_le _) (fun z22 S22 V22 hq22 => ?_))
                obtain ⟨rfl, M22, hc23, mr22, hf22⟩ := hq22
                have mf22 := MF.trans mf19 hf22
                refine X_if_ne dX12_isKeyword_69 (tgt := 109) rfl (fun c24 => ?_) (fun c24 => ?_)
                · refine X_iconst dX12_isKeyword_109 (by decide) ?_
                  refine X_goto dX12_isKeyword_110 (tgt := 114) rfl ?_
                  exact X_ret (z := 1) dX12_isKeyword_114 rfl (fun _ => Or.inr rfl) ⟨rfl, _, (hc23.1 c24), mr22, mf22⟩
                · refine X_aload_n dX12_isKeyword_72 rfl ?_
                  refine X_ldcS (i := 12) dX12_isKeyword_73 (by decide) ⟨rfl, rfl⟩ ?_
                  refine X_invV (ci := 12) (as := [vr ((G.2.2.2.1 12 : Int) + 1)]) (st := []) okX12_isWord dX12_isKeyword_75 km_RX12_235 rfl rfl (Nat.le_of_ble_eq_true rfl) rfl rfl mr22.1 (CT.of d 0 0 (hcl n_isWord_0 rfl [12] _ _ _ (hc23.2 c24) mr22) (Nat.le_refl _) (Nat.zero_le _) (Nat.zero_le _) (fun z25 S25 V25 hq25 => ?_))
                  obtain ⟨rfl, M25, hc26, mr25, hf25⟩ := hq25
                  have mf25 := MF.trans mf22 hf25
                  refine X_if_ne dX12_isKeyword_78 (tgt := 109) rfl (fun c27 => ?_) (fun c27 => ?_)
                  · refine X_iconst dX12_isKeyword_109 (by decide) ?_
                    refine X_goto dX12_isKeyword_110 (tgt := 114) rfl ?_
                    exact X_ret (z := 1) dX12_isKeyword_114 rfl (fun _ => Or.inr rfl) ⟨rfl, _, (hc26.1 c27), mr25, mf25⟩
                  · refine X_aload_n dX12_isKeyword_81 rfl ?_
                    refine X_ldcS (i := 13) dX12_isKeyword_82 (by decide) ⟨rfl, rfl⟩ ?_
                    refine X_invV (ci := 12) (as := [vr ((G.2.2.2.1 13 : Int) + 1)]) (st := []) okX12_isWord dX12_isKeyword_84 km_RX12_235 rfl rfl (Nat.le_of_ble_eq_true rfl) rfl rfl mr25.1 (CT.of d 0 0 (hcl n_isWord_0 rfl [13] _ _ _ (hc26.2 c27) mr25) (Nat.le_refl _) (Nat.zero_le _) (Nat.zero_le _) (fun z28 S28 V28 hq28 => ?_))
                    obtain ⟨rfl, M28, hc29, mr28, hf28⟩ := hq28
                    have mf28 := MF.trans mf25 hf28
                    refine X_if_ne dX12_isKeyword_87 (tgt := 109) rfl (fun c30 => ?_) (fun c30 => ?_)
                    · refine X_iconst dX12_isKeyword_109 (by decide) ?_
                      refine X_goto dX12_isKeyword_110 (tgt := 114) rfl ?_
                      exact X_ret (z := 1) dX12_isKeyword_114 rfl (fun _ => Or.inr rfl) ⟨rfl, _, (hc29.1 c30), mr28, mf28⟩
                    · refine X_aload_n dX12_isKeyword_90 rfl ?_
                      refine X_ldcS (i := 14) dX12_isKeyword_91 (by decide) ⟨rfl, rfl⟩ ?_
                      refine X_invV (ci := 12) (as := [vr ((G.2.2.2.1 14 : Int) + 1)]) (st := []) okX12_isWord dX12_isKeyword_93 km_RX12_235 rfl rfl (Nat.le_of_ble_eq_true rfl) rfl rfl mr28.1 (CT.of d 0 0 (hcl n_isWord_0 rfl [14] _ _ _ (hc29.2 c30) mr28) (Nat.le_refl _) (Nat.zero_le _) (Nat.zero_le _) (fun z31 S31 V31 hq31 => ?_))
                      obtain ⟨rfl, M31, hc32, mr31, hf31⟩ := hq31
                      have mf31 := MF.trans mf28 hf31
                      refine X_if_ne dX12_isKeyword_96 (tgt := 109) rfl (fun c33 => ?_) (fun c33 => ?_)
                      · refine X_iconst dX12_isKeyword_109 (by decide) ?_
                        refine X_goto dX12_isKeyword_110 (tgt := 114) rfl ?_
                        exact X_ret (z := 1) dX12_isKeyword_114 rfl (fun _ => Or.inr rfl) ⟨rfl, _, (hc32.1 c33), mr31, mf31⟩
                      · refine X_aload_n dX12_isKeyword_99 rfl ?_
                        refine X_ldcwS (i := 15) dX12_isKeyword_100 (by decide) ⟨rfl, rfl⟩ ?_
                        refine X_invV (ci := 12) (as := [vr ((G.2.2.2.1 15 : Int) + 1)]) (st := []) okX12_isWord dX12_isKeyword_103 km_RX12_235 rfl rfl (Nat.le_of_ble_eq_true rfl) rfl rfl mr31.1 (CT.of d 0 0 (hcl n_isWord_0 rfl [15] _ _ _ (hc32.2 c33) mr31) (Nat.le_refl _) (Nat.zero_le _) (Nat.zero_le _) (fun z34 S34 V34 hq34 => ?_))
                        obtain ⟨rfl, M34, hc35, mr34, hf34⟩ := hq34
                        have mf34 := MF.trans mf31 hf34
                        refine X_if_eq dX12_isKeyword_106 (tgt := 113) rfl (fun c36 => ?_) (fun c36 => ?_)
                        · refine X_iconst dX12_isKeyword_113 (by decide) ?_
                          exact X_ret (z := 0) dX12_isKeyword_114 rfl (fun _ => Or.inl rfl) ⟨rfl, _, (hc35.1 c36), mr34, mf34⟩
                        · refine X_iconst dX12_isKeyword_109 (by decide) ?_
                          refine X_goto dX12_isKeyword_110 (tgt := 114) rfl ?_
                          exact X_ret (z := 1) dX12_isKeyword_114 rfl (fun _ => Or.inr rfl) ⟨rfl, _, (hc35.2 c36), mr34, mf34⟩
def B_isName_0 (rc : MP) (cl : MC) (Q : Int → Mem → Prop) (d : Nat) (M : Mem) : Prop := ((M 0 3) ≠ 2 → Q 0 M) ∧ (¬ ((M 0 3) ≠ 2) → cl n_isKeyword_0 [] M (fun z2 M2 => (z2 ≠ 0 → Q 0 M2) ∧ (¬ (z2 ≠ 0) → Q 1 M2)))
set_option maxRecDepth 10000 in
theorem s_isName_0 {l : Launch} {G : GT} {m : Int} {a : Int → Int} {d mc ms : Nat} {S : Sh} {Q : Int → Mem → Prop} {rc : MP} {cl : MC} {V0 V M : Mem} (hrc : RCok l G m a S V0 Q d mc ms rc) (hcl : CLok l G m a S d cl) (mr : MR m a S V M) (mf : MF m a V0 V) (hB : B_isName_0 rc cl Q d  M) : XJ l G bX12_isName (Qm m a S V0 Q) (d + 1) 0 [vr m] [] S V mc ms := by
  unfold B_isName_0 at hB
  refine X_aload_n dX12_isName_0 rfl ?_
  refine X_getfield (ci := 12) (k := 3) (v := vi (M 0 3)) dX12_isName_1 rfl (by decide) kf_RX12_205 (congrArg vi (MR.in_ mr (k := 3) (by decide) rfl)) mr.1 ?_
  refine X_iconst dX12_isName_4 (by decide) ?_
  refine X_icmp_ne dX12_isName_5 (tgt := 19) rfl (fun c1 => ?_) (fun c1 => ?_)
  · refine X_iconst dX12_isName_19 (by decide) ?_
    exact X_ret (z := 0) dX12_isName_20 rfl (fun _ => Or.inl rfl) ⟨rfl, _, (hB.1 c1), mr, mf⟩
  · refine X_aload_n dX12_isName_8 rfl ?_
    refine X_invV (ci := 12) (as := []) (st := []) okX12_isKeyword dX12_isName_9 km_RX12_259 rfl rfl (Nat.le_of_ble_eq_true rfl) rfl rfl mr.1 (CT.of d 0 0 (hcl n_isKeyword_0 rfl [] _ _ _ (hB.2 c1) mr) (Nat.le_refl _) (Nat.zero_le _) (Nat.zero_le _) (fun z2 S2 V2 hq2 => ?_))
    obtain ⟨rfl, M2, hc3, mr2, hf2⟩ := hq2
    have mf2 := MF.trans mf hf2
    refine X_if_ne dX12_isName_12 (tgt := 19) rfl (fun c4 => ?_) (fun c4 => ?_)
    · refine X_iconst dX12_isName_19 (by decide) ?_
      exact X_ret (z := 0) dX12_isName_20 rfl (fun _ => Or.inl rfl) ⟨rfl, _, (hc3.1 c4), mr2, mf2⟩
    · refine X_iconst dX12_isName_15 (by decide) ?_
      refine X_goto dX12_isName_16 (tgt := 20) rfl ?_
      exact X_ret (z := 1) dX12_isName_20 rfl (fun _ => Or.inr rfl) ⟨rfl, _, (hc3.2 c4), mr2, mf2⟩
def B_nameHere_0 (rc : MP) (cl : MC) (Q : Int → Mem → Prop) (d : Nat) (M : Mem) : Prop := -2147483648 ≤ 3000 * (M 0 9) ∧ 3000 * (M 0 9) ≤ 2147483647 ∧ -2147483648 ≤ (3000 * (M 0 9)) + (M 0 4) ∧ (3000 * (M 0 9)) + (M 0 4) ≤ 2147483647 ∧ -2147483648 ≤ 16 * ((3000 * (M 0 9)) + (M 0 4)) ∧ 16 * ((3000 * (M 0 9)) + (M 0 4)) ≤ 2147483647 ∧ -2147483648 ≤ (16 * ((3000 * (M 0 9)) + (M 0 4))) + (M 0 5) ∧ (16 * ((3000 * (M 0 9)) + (M 0 4))) + (M 0 5) ≤ 2147483647 ∧ -2147483648 ≤ ((16 * ((3000 * (M 0 9)) + (M 0 4))) + (M 0 5)) - (M 0 4) ∧ ((16 * ((3000 * (M 0 9)) + (M 0 4))) + (M 0 5)) - (M 0 4) ≤ 2147483647 ∧ Q (((16 * ((3000 * (M 0 9)) + (M 0 4))) + (M 0 5)) - (M 0 4)) M
set_option maxRecDepth 10000 in
theorem s_nameHere_0 {l : Launch} {G : GT} {m : Int} {a : Int → Int} {d mc ms : Nat} {S : Sh} {Q : Int → Mem → Prop} {rc : MP} {cl : MC} {V0 V M : Mem} (hrc : RCok l G m a S V0 Q d mc ms rc) (hcl : CLok l G m a S d cl) (mr : MR m a S V M) (mf : MF m a V0 V) (hB : B_nameHere_0 rc cl Q d  M) : XJ l G bX12_nameHere (Qm m a S V0 Q) (d + 1) 0 [vr m] [] S V mc ms := by
  unfold B_nameHere_0 at hB
  refine X_bipush dX12_nameHere_0 (by decide) (by decide) ?_
  refine X_sipush dX12_nameHere_2 (by decide) (by decide) ?_
  refine X_aload_n dX12_nameHere_5 rfl ?_
  refine X_getfield (ci := 12) (k := 9) (v := vi (M 0 9)) dX12_nameHere_6 rfl (by decide) kf_RX12_263 (congrArg vi (MR.in_ mr (k := 9) (by decide) rfl)) mr.1 ?_
  refine X_imulN dX12_nameHere_9 hB.1 hB.2.1 ?_
  refine X_aload_n dX12_nameHere_10 rfl ?_
  refine X_getfield (ci := 12) (k := 4) (v := vi (M 0 4)) dX12_nameHere_11 rfl (by decide) kf_RX12_198 (congrArg vi (MR.in_ mr (k := 4) (by decide) rfl)) mr.1 ?_
  refine X_iaddN dX12_nameHere_14 hB.2.2.1 hB.2.2.2.1 ?_
  refine X_imulN dX12_nameHere_15 hB.2.2.2.2.1 hB.2.2.2.2.2.1 ?_
  refine X_aload_n dX12_nameHere_16 rfl ?_
  refine X_getfield (ci := 12) (k := 5) (v := vi (M 0 5)) dX12_nameHere_17 rfl (by decide) kf_RX12_195 (congrArg vi (MR.in_ mr (k := 5) (by decide) rfl)) mr.1 ?_
  refine X_iaddN dX12_nameHere_20 hB.2.2.2.2.2.2.1 hB.2.2.2.2.2.2.2.1 ?_
  refine X_aload_n dX12_nameHere_21 rfl ?_
  refine X_getfield (ci := 12) (k := 4) (v := vi (M 0 4)) dX12_nameHere_22 rfl (by decide) kf_RX12_198 (congrArg vi (MR.in_ mr (k := 4) (by decide) rfl)) mr.1 ?_
  refine X_isubN dX12_nameHere_25 hB.2.2.2.2.2.2.2.2.1 hB.2.2.2.2.2.2.2.2.2.1 ?_
  exact X_ret (z := (((16 * ((3000 * (M 0 9)) + (M 0 4))) + (M 0 5)) - (M 0 4))) dX12_nameHere_26 rfl (fun hv => vok_h hv) ⟨rfl, _, hB.2.2.2.2.2.2.2.2.2.2, mr, mf⟩
def B_isSame_0 (rc : MP) (cl : MC) (Q : Int → Mem → Prop) (d : Nat) (x1 x2 : Int) (M : Mem) : Prop := ((x1.tmod 16) = (x2.tmod 16) → rc n_isSame_18 [x1, x2, x1.tmod 16, 0] M) ∧ (¬ ((x1.tmod 16) = (x2.tmod 16)) → Q 0 M)
set_option maxRecDepth 10000 in
theorem s_isSame_0 {l : Launch} {G : GT} {m : Int} {a : Int → Int} {d mc ms : Nat} {S : Sh} {Q : Int → Mem → Prop} {rc : MP} {cl : MC} {V0 V M : Mem} {x1 x2 : Int} (hrc : RCok l G m a S V0 Q d mc ms rc) (hcl : CLok l G m a S d cl) (mr : MR m a S V M) (mf : MF m a V0 V) (hB : B_isSame_0 rc cl Q d x1 x2 M) : XJ l G bX12_isSame (Qm m a S V0 Q) (d + 1) 0 [vr m, vi x1, vi x2, vu, vu] [] S V mc ms := by
  unfold B_isSame_0 at hB
  refine X_iload_n dX12_isSame_0 rfl ?_
  refine X_bipush dX12_isSame_1 (by decide) (by decide) ?_
  refine X_iremP dX12_isSame_3 (by decide) ?_
  refine X_istore_n dX12_isSame_4 (by decide) rfl ?_
  refine X_iload_n dX12_isSame_5 rfl ?_
  refine X_iload_n dX12_isSame_6 rfl ?_
  refine X_bipush dX12_isSame_7 (by decide) (by decide) ?_
  refine X_iremP dX12_isSame_9 (by decide) ?_
  refine X_icmp_eq dX12_isSame_10 (tgt := 15) rfl (fun c1 => ?_) (fun c1 => ?_)
  · refine X_iconst dX12_isSame_15 (by decide) ?_
    refine X_istore dX12_isSame_16 (by decide) rfl ?_
    exact hrc n_isSame_18 [x1, x2, x1.tmod 16, 0] _ _ (hB.1 c1) mr mf
  · refine X_iconst dX12_isSame_13 (by decide) ?_
    exact X_ret (z := 0) dX12_isSame_14 rfl (fun _ => Or.inl rfl) ⟨rfl, _, (hB.2 c1), mr, mf⟩
def B_isSame_18 (rc : MP) (cl : MC) (Q : Int → Mem → Prop) (d : Nat) (x1 x2 x3 x4 : Int) (M : Mem) : Prop := (x3 ≤ x4 → Q 1 M) ∧ (¬ (x3 ≤ x4) → -2147483648 ≤ (x1.tdiv 16) + x4 ∧ (x1.tdiv 16) + x4 ≤ 2147483647 ∧ 0 ≤ ((x1.tdiv 16) + x4) ∧ ((x1.tdiv 16) + x4) < 30000 ∧ -2147483648 ≤ (x2.tdiv 16) + x4 ∧ (x2.tdiv 16) + x4 ≤ 2147483647 ∧ 0 ≤ ((x2.tdiv 16) + x4) ∧ ((x2.tdiv 16) + x4) < 30000 ∧ ((M 7 ((x1.tdiv 16) + x4)) = (M 7 ((x2.tdiv 16) + x4)) → -2147483648 ≤ x4 + 1 ∧ x4 + 1 ≤ 2147483647 ∧ rc n_isSame_18 [x1, x2, x3, x4 + 1] M) ∧ (¬ ((M 7 ((x1.tdiv 16) + x4)) = (M 7 ((x2.tdiv 16) + x4))) → Q 0 M))
set_option maxRecDepth 10000 in
theorem s_isSame_18 {l : Launch} {G : GT} {m : Int} {a : Int → Int} {d mc ms : Nat} {S : Sh} {Q : Int → Mem → Prop} {rc : MP} {cl : MC} {V0 V M : Mem} {x1 x2 x3 x4 : Int} (hrc : RCok l G m a S V0 Q d mc ms rc) (hcl : CLok l G m a S d cl) (mr : MR m a S V M) (mf : MF m a V0 V) (hB : B_isSame_18 rc cl Q d x1 x2 x3 x4 M) : XJ l G bX12_isSame (Qm m a S V0 Q) (d + 1) 18 [vr m, vi x1, vi x2, vi x3, vi x4] [] S V mc ms := by
  unfold B_isSame_18 at hB
  refine X_iload dX12_isSame_18 rfl ?_
  refine X_iload_n dX12_isSame_20 rfl ?_
  refine X_icmp_ge dX12_isSame_21 (tgt := 59) rfl (fun c1 => ?_) (fun c1 => ?_)
  · refine X_iconst dX12_isSame_59 (by decide) ?_
    exact X_ret (z := 1) dX12_isSame_60 rfl (fun _ => Or.inr rfl) ⟨rfl, _, (hB.1 c1), mr, mf⟩
  · refine X_aload_n dX12_isSame_24 rfl ?_
    refine X_getfield (ci := 12) (k := 7) (v := vr (a 7)) dX12_isSame_25 rfl (by decide) kf_RX12_13 (congrArg vr (MR.ar mr (k := 7) (by decide)).1) mr.1 ?_
    refine X_iload_n dX12_isSame_28 rfl ?_
    refine X_bipush dX12_isSame_29 (by decide) (by decide) ?_
    refine X_idivP dX12_isSame_31 (by decide) ?_
    refine X_iload dX12_isSame_32 rfl ?_
    refine X_iaddN dX12_isSame_34 (hB.2 c1).1 (hB.2 c1).2.1 ?_
    refine X_baload dX12_isSame_35 ((MR.ar mr (k := 7) (by decide)).2.1.trans (by decide)) (hB.2 c1).2.2.1 (lt_eq (hB.2 c1).2.2.2.1 (MR.ln mr (k := 7) (by decide) (by decide))) ?_
    refine X_top (v := vi (M 7 ((x1.tdiv 16) + x4))) (congrArg vi (MR.el mr (k := 7) (by decide) rfl)) ?_
    refine X_aload_n dX12_isSame_36 rfl ?_
    refine X_getfield (ci := 12) (k := 7) (v := vr (a 7)) dX12_isSame_37 rfl (by decide) kf_RX12_13 (congrArg vr (MR.ar mr (k := 7) (by decide)).1) mr.1 ?_
    refine X_iload_n dX12_isSame_40 rfl ?_
    refine X_bipush dX12_isSame_41 (by decide) (by decide) ?_
    refine X_idivP dX12_isSame_43 (by decide) ?_
    refine X_iload dX12_isSame_44 rfl ?_
    refine X_iaddN dX12_isSame_46 (hB.2 c1).2.2.2.2.1 (hB.2 c1).2.2.2.2.2.1 ?_
    refine X_baload dX12_isSame_47 ((MR.ar mr (k := 7) (by decide)).2.1.trans (by decide)) (hB.2 c1).2.2.2.2.2.2.1 (lt_eq (hB.2 c1).2.2.2.2.2.2.2.1 (MR.ln mr (k := 7) (by decide) (by decide))) ?_
    refine X_top (v := vi (M 7 ((x2.tdiv 16) + x4))) (congrArg vi (MR.el mr (k := 7) (by decide) rfl)) ?_
    refine X_icmp_eq dX12_isSame_48 (tgt := 53) rfl (fun c2 => ?_) (fun c2 => ?_)
    · refine X_iincN dX12_isSame_53 rfl (by decide) rfl (e := x4 + 1) rfl ((hB.2 c1).2.2.2.2.2.2.2.2.1 c2).1 ((hB.2 c1).2.2.2.2.2.2.2.2.1 c2).2.1 ?_
      refine X_goto dX12_isSame_56 (tgt := 18) rfl ?_
      exact hrc n_isSame_18 [x1, x2, x3, x4 + 1] _ _ ((hB.2 c1).2.2.2.2.2.2.2.2.1 c2).2.2 mr mf
    · refine X_iconst dX12_isSame_51 (by decide) ?_
      exact X_ret (z := 0) dX12_isSame_52 rfl (fun _ => Or.inl rfl) ⟨rfl, _, ((hB.2 c1).2.2.2.2.2.2.2.2.2 c2), mr, mf⟩
def B_isTwo_0 (rc : MP) (cl : MC) (Q : Int → Mem → Prop) (d : Nat) (x0 : Int) (M : Mem) : Prop := (x0 < 2 → Q 0 M) ∧ (¬ (x0 < 2) → (5 < x0 → Q 0 M) ∧ (¬ (5 < x0) → Q 1 M))
set_option maxRecDepth 10000 in
theorem s_isTwo_0 {l : Launch} {G : GT} {m : Int} {a : Int → Int} {d mc ms : Nat} {S : Sh} {Q : Int → Mem → Prop} {rc : MP} {cl : MC} {V0 V M : Mem} {x0 : Int} (hrc : RCok l G m a S V0 Q d mc ms rc) (hcl : CLok l G m a S d cl) (mr : MR m a S V M) (mf : MF m a V0 V) (hB : B_isTwo_0 rc cl Q d x0 M) : XJ l G bX12_isTwo (Qm m a S V0 Q) (d + 1) 0 [vi x0] [] S V mc ms := by
  unfold B_isTwo_0 at hB
  refine X_iload_n dX12_isTwo_0 rfl ?_
  refine X_iconst dX12_isTwo_1 (by decide) ?_
  refine X_icmp_lt dX12_isTwo_2 (tgt := 14) rfl (fun c1 => ?_) (fun c1 => ?_)
  · refine X_iconst dX12_isTwo_14 (by decide) ?_
    exact X_ret (z := 0) dX12_isTwo_15 rfl (fun _ => Or.inl rfl) ⟨rfl, _, (hB.1 c1), mr, mf⟩
  · refine X_iload_n dX12_isTwo_5 rfl ?_
    refine X_iconst dX12_isTwo_6 (by decide) ?_
    refine X_icmp_gt dX12_isTwo_7 (tgt := 14) rfl (fun c2 => ?_) (fun c2 => ?_)
    · refine X_iconst dX12_isTwo_14 (by decide) ?_
      exact X_ret (z := 0) dX12_isTwo_15 rfl (fun _ => Or.inl rfl) ⟨rfl, _, ((hB.2 c1).1 c2), mr, mf⟩
    · refine X_iconst dX12_isTwo_10 (by decide) ?_
      refine X_goto dX12_isTwo_11 (tgt := 15) rfl ?_
      exact X_ret (z := 1) dX12_isTwo_15 rfl (fun _ => Or.inr rfl) ⟨rfl, _, ((hB.2 c1).2 c2), mr, mf⟩
def B_expression_0 (rc : MP) (cl : MC) (Q : Int → Mem → Prop) (d : Nat) (x1 x2 x3 : Int) (M : Mem) : Prop := 0 ≤ (M 0 40) ∧ (M 0 40) < 31000 ∧ cl n_isTwo_0 [x1] (up (up (up (up M 35 (M 0 40) x1) 36 (M 0 40) x2) 37 (M 0 40) x3) 39 (M 0 40) (M 0 41)) (fun z1 M1 => (z1 = 0 → -2147483648 ≤ (M1 0 40) + 1 ∧ (M1 0 40) + 1 ≤ 2147483647 ∧ -2147483648 ≤ ((M1 0 40) + 1) - 1 ∧ ((M1 0 40) + 1) - 1 ≤ 2147483647 ∧ Q (((M1 0 40) + 1) - 1) (up M1 0 40 ((M1 0 40) + 1))) ∧ (¬ (z1 = 0) → 0 ≤ x2 ∧ x2 < 31000 ∧ -2147483648 ≤ (M1 0 40) + 1 ∧ (M1 0 40) + 1 ≤ 2147483647 ∧ -2147483648 ≤ ((M1 0 40) + 1) - 1 ∧ ((M1 0 40) + 1) - 1 ≤ 2147483647 ∧ Q (((M1 0 40) + 1) - 1) (up (up M1 38 x2 (M1 0 40)) 0 40 ((M1 0 40) + 1))))
set_option maxRecDepth 10000 in
theorem s_expression_0 {l : Launch} {G : GT} {m : Int} {a : Int → Int} {d mc ms : Nat} {S : Sh} {Q : Int → Mem → Prop} {rc : MP} {cl : MC} {V0 V M : Mem} {x1 x2 x3 : Int} (hrc : RCok l G m a S V0 Q d mc ms rc) (hcl : CLok l G m a S d cl) (mr : MR m a S V M) (mf : MF m a V0 V) (hB : B_expression_0 rc cl Q d x1 x2 x3 M) : XJ l G bX12_expression (Qm m a S V0 Q) (d + 1) 0 [vr m, vi x1, vi x2, vi x3] [] S V mc ms := by
  unfold B_expression_0 at hB
  refine X_aload_n dX12_expression_0 rfl ?_
  refine X_getfield (ci := 12) (k := 35) (v := vr (a 35)) dX12_expression_1 rfl (by decide) kf_RX12_92 (congrArg vr (MR.ar mr (k := 35) (by decide)).1) mr.1 ?_
  refine X_aload_n dX12_expression_4 rfl ?_
  refine X_getfield (ci := 12) (k := 40) (v := vi (M 0 40)) dX12_expression_5 rfl (by decide) kf_RX12_266 (congrArg vi (MR.in_ mr (k := 40) (by decide) rfl)) mr.1 ?_
  refine X_iload_n dX12_expression_8 rfl ?_
  refine X_iastore dX12_expression_9 ((MR.ar mr (k := 35) (by decide)).2.1.trans (by decide)) hB.1 (lt_eq hB.2.1 (MR.ln mr (k := 35) (by decide) (by decide))) ?_
  refine X_aload_n dX12_expression_10 rfl ?_
  refine X_getfield (ci := 12) (k := 36) (v := vr (a 36)) dX12_expression_11 rfl (by decide) kf_RX12_95 (congrArg vr (MR.ar (MR.putA mr (k := 35) (j := M 0 40) (z := x1) (by decide)) (k := 36) (by decide)).1) (MR.putA mr (k := 35) (j := M 0 40) (z := x1) (by decide)).1 ?_
  refine X_aload_n dX12_expression_14 rfl ?_
  refine X_getfield (ci := 12) (k := 40) (v := vi (M 0 40)) dX12_expression_15 rfl (by decide) kf_RX12_266 (congrArg vi (MR.in_ (MR.putA mr (k := 35) (j := M 0 40) (z := x1) (by decide)) (k := 40) (by decide) (up_ne (Or.inl (by decide))))) (MR.putA mr (k := 35) (j := M 0 40) (z := x1) (by decide)).1 ?_
  refine X_iload_n dX12_expression_18 rfl ?_
  refine X_iastore dX12_expression_19 ((MR.ar (MR.putA mr (k := 35) (j := M 0 40) (z := x1) (by decide)) (k := 36) (by decide)).2.1.trans (by decide)) hB.1 (lt_eq hB.2.1 (MR.ln (MR.putA mr (k := 35) (j := M 0 40) (z := x1) (by decide)) (k := 36) (by decide) (by decide))) ?_
  refine X_aload_n dX12_expression_20 rfl ?_
  refine X_getfield (ci := 12) (k := 37) (v := vr (a 37)) dX12_expression_21 rfl (by decide) kf_RX12_98 (congrArg vr (MR.ar (MR.putA (MR.putA mr (k := 35) (j := M 0 40) (z := x1) (by decide)) (k := 36) (j := M 0 40) (z := x2) (by decide)) (k := 37) (by decide)).1) (MR.putA (MR.putA mr (k := 35) (j := M 0 40) (z := x1) (by decide)) (k := 36) (j := M 0 40) (z := x2) (by decide)).1 ?_
  refine X_aload_n dX12_expression_24 rfl ?_
  refine X_getfield (ci := 12) (k := 40) (v := vi (M 0 40)) dX12_expression_25 rfl (by decide) kf_RX12_266 (congrArg vi (MR.in_ (MR.putA (MR.putA mr (k := 35) (j := M 0 40) (z := x1) (by decide)) (k := 36) (j := M 0 40) (z := x2) (by decide)) (k := 40) (by decide) ((up_ne (Or.inl (by decide))).trans (up_ne (Or.inl (by decide)))))) (MR.putA (MR.putA mr (k := 35) (j := M 0 40) (z := x1) (by decide)) (k := 36) (j := M 0 40) (z := x2) (by decide)).1 ?_
  refine X_iload_n dX12_expression_28 rfl ?_
  refine X_iastore dX12_expression_29 ((MR.ar (MR.putA (MR.putA mr (k := 35) (j := M 0 40) (z := x1) (by decide)) (k := 36) (j := M 0 40) (z := x2) (by decide)) (k := 37) (by decide)).2.1.trans (by decide)) hB.1 (lt_eq hB.2.1 (MR.ln (MR.putA (MR.putA mr (k := 35) (j := M 0 40) (z := x1) (by decide)) (k := 36) (j := M 0 40) (z := x2) (by decide)) (k := 37) (by decide) (by decide))) ?_
  refine X_aload_n dX12_expression_30 rfl ?_
  refine X_getfield (ci := 12) (k := 39) (v := vr (a 39)) dX12_expression_31 rfl (by decide) kf_RX12_104 (congrArg vr (MR.ar (MR.putA (MR.putA (MR.putA mr (k := 35) (j := M 0 40) (z := x1) (by decide)) (k := 36) (j := M 0 40) (z := x2) (by decide)) (k := 37) (j := M 0 40) (z := x3) (by decide)) (k := 39) (by decide)).1) (MR.putA (MR.putA (MR.putA mr (k := 35) (j := M 0 40) (z := x1) (by decide)) (k := 36) (j := M 0 40) (z := x2) (by decide)) (k := 37) (j := M 0 40) (z := x3) (by decide)).1 ?_
  refine X_aload_n dX12_expression_34 rfl ?_
  refine X_getfield (ci := 12) (k := 40) (v := vi (M 0 40)) dX12_expression_35 rfl (by decide) kf_RX12_266 (congrArg vi (MR.in_ (MR.putA (MR.putA (MR.putA mr (k := 35) (j := M 0 40) (z := x1) (by decide)) (k := 36) (j := M 0 40) (z := x2) (by decide)) (k := 37) (j := M 0 40) (z := x3) (by decide)) (k := 40) (by decide) ((up_ne (Or.inl (by decide))).trans ((up_ne (Or.inl (by decide))).trans (up_ne (Or.inl (by decide))))))) (MR.putA (MR.putA (MR.putA mr (k := 35) (j := M 0 40) (z := x1) (by decide)) (k := 36) (j := M 0 40) (z := x2) (by decide)) (k := 37) (j := M 0 40) (z := x3) (by decide)).1 ?_
  refine X_aload_n dX12_expression_38 rfl ?_
  refine X_getfield (ci := 12) (k := 41) (v := vi (M 0 41)) dX12_expression_39 rfl (by decide) kf_RX12_269 (congrArg vi (MR.in_ (MR.putA (MR.putA (MR.putA mr (k := 35) (j := M 0 40) (z := x1) (by decide)) (k := 36) (j := M 0 40) (z := x2) (by decide)) (k := 37) (j := M 0 40) (z := x3) (by decide)) (k := 41) (by decide) ((up_ne (Or.inl (by decide))).trans ((up_ne (Or.inl (by decide))).trans (up_ne (Or.inl (by decide))))))) (MR.putA (MR.putA (MR.putA mr (k := 35) (j := M 0 40) (z := x1) (by decide)) (k := 36) (j := M 0 40) (z := x2) (by decide)) (k := 37) (j := M 0 40) (z := x3) (by decide)).1 ?_
  refine X_iastore dX12_expression_42 ((MR.ar (MR.putA (MR.putA (MR.putA mr (k := 35) (j := M 0 40) (z := x1) (by decide)) (k := 36) (j := M 0 40) (z := x2) (by decide)) (k := 37) (j := M 0 40) (z := x3) (by decide)) (k := 39) (by decide)).2.1.trans (by decide)) hB.1 (lt_eq hB.2.1 (MR.ln (MR.putA (MR.putA (MR.putA mr (k := 35) (j := M 0 40) (z := x1) (by decide)) (k := 36) (j := M 0 40) (z := x2) (by decide)) (k := 37) (j := M 0 40) (z := x3) (by decide)) (k := 39) (by decide) (by decide))) ?_
  refine X_iload_n dX12_expression_43 rfl ?_
  refine X_invS (as := [vi x1]) (st := []) okX12_isTwo dX12_expression_44 km_RX12_272 rfl rfl (Nat.le_of_ble_eq_true rfl) (CT.of d 0 0 (hcl n_isTwo_0 rfl [x1] _ _ _ hB.2.2 (MR.putA (MR.putA (MR.putA (MR.putA mr (k := 35) (j := M 0 40) (z := x1) (by decide)) (k := 36) (j := M 0 40) (z := x2) (by decide)) (k := 37) (j := M 0 40) (z := x3) (by decide)) (k := 39) (j := M 0 40) (z := M 0 41) (by decide))) (Nat.le_refl _) (Nat.zero_le _) (Nat.zero_le _) (fun z1 S1 V1 hq1 => ?_))
  obtain ⟨rfl, M1, hc2, mr1, hf1⟩ := hq1
  have mf1 := MF.trans (MF.putA (MF.putA (MF.putA (MF.putA mf (k := 35) (j := M 0 40) (z := x1) (by decide)) (k := 36) (j := M 0 40) (z := x2) (by decide)) (k := 37) (j := M 0 40) (z := x3) (by decide)) (k := 39) (j := M 0 40) (z := M 0 41) (by decide)) hf1
  refine X_if_eq dX12_expression_47 (tgt := 60) rfl (fun c3 => ?_) (fun c3 => ?_)
  · refine X_aload_n dX12_expression_60 rfl ?_
    refine X_dup dX12_expression_61 (rv_cat _) ?_
    refine X_getfield (ci := 12) (k := 40) (v := vi (M1 0 40)) dX12_expression_62 rfl (by decide) kf_RX12_266 (congrArg vi (MR.in_ mr1 (k := 40) (by decide) rfl)) mr1.1 ?_
    refine X_iconst dX12_expression_65 (by decide) ?_
    refine X_iaddN dX12_expression_66 (hc2.1 c3).1 (hc2.1 c3).2.1 ?_
    refine X_putfield (ci := 12) (k := 40) (z := ((M1 0 40) + 1)) dX12_expression_67 rfl (by decide) kf_RX12_266 (Or.inl rfl) (Or.inl rfl) rfl (fun hv => hv) mr1.1 ?_
    refine X_aload_n dX12_expression_70 rfl ?_
    refine X_getfield (ci := 12) (k := 40) (v := vi ((M1 0 40) + 1)) dX12_expression_71 rfl (by decide) kf_RX12_266 (congrArg vi (MR.in_ (MR.putI mr1 (k := 40) (z := (M1 0 40) + 1) (by decide)) (k := 40) (by decide) (up_eq))) (MR.putI mr1 (k := 40) (z := (M1 0 40) + 1) (by decide)).1 ?_
    refine X_iconst dX12_expression_74 (by decide) ?_
    refine X_isubN dX12_expression_75 (hc2.1 c3).2.2.1 (hc2.1 c3).2.2.2.1 ?_
    exact X_ret (z := (((M1 0 40) + 1) - 1)) dX12_expression_76 rfl (fun hv => vok_h hv) ⟨rfl, _, (hc2.1 c3).2.2.2.2, (MR.putI mr1 (k := 40) (z := (M1 0 40) + 1) (by decide)), (MF.putI mf1 (k := 40) (z := (M1 0 40) + 1))⟩
  · refine X_aload_n dX12_expression_50 rfl ?_
    refine X_getfield (ci := 12) (k := 38) (v := vr (a 38)) dX12_expression_51 rfl (by decide) kf_RX12_101 (congrArg vr (MR.ar mr1 (k := 38) (by decide)).1) mr1.1 ?_
    refine X_iload_n dX12_expression_54 rfl ?_
    refine X_aload_n dX12_expression_55 rfl ?_
    refine X_getfield (ci := 12) (k := 40) (v := vi (M1 0 40)) dX12_expression_56 rfl (by decide) kf_RX12_266 (congrArg vi (MR.in_ mr1 (k := 40) (by decide) rfl)) mr1.1 ?_
    refine X_iastore dX12_expression_59 ((MR.ar mr1 (k := 38) (by decide)).2.1.trans (by decide)) (hc2.2 c3).1 (lt_eq (hc2.2 c3).2.1 (MR.ln mr1 (k := 38) (by decide) (by decide))) ?_
    refine X_aload_n dX12_expression_60 rfl ?_
    refine X_dup dX12_expression_61 (rv_cat _) ?_
    refine X_getfield (ci := 12) (k := 40) (v := vi (M1 0 40)) dX12_expression_62 rfl (by decide) kf_RX12_266 (congrArg vi (MR.in_ (MR.putA mr1 (k := 38) (j := x2) (z := M1 0 40) (by decide)) (k := 40) (by decide) (up_ne (Or.inl (by decide))))) (MR.putA mr1 (k := 38) (j := x2) (z := M1 0 40) (by decide)).1 ?_
    refine X_iconst dX12_expression_65 (by decide) ?_
    refine X_iaddN dX12_expression_66 (hc2.2 c3).2.2.1 (hc2.2 c3).2.2.2.1 ?_
    refine X_putfield (ci := 12) (k := 40) (z := ((M1 0 40) + 1)) dX12_expression_67 rfl (by decide) kf_RX12_266 (Or.inl rfl) (Or.inl rfl) rfl (fun hv => hv) (MR.putA mr1 (k := 38) (j := x2) (z := M1 0 40) (by decide)).1 ?_
    refine X_aload_n dX12_expression_70 rfl ?_
    refine X_getfield (ci := 12) (k := 40) (v := vi ((M1 0 40) + 1)) dX12_expression_71 rfl (by decide) kf_RX12_266 (congrArg vi (MR.in_ (MR.putI (MR.putA mr1 (k := 38) (j := x2) (z := M1 0 40) (by decide)) (k := 40) (z := (M1 0 40) + 1) (by decide)) (k := 40) (by decide) (up_eq))) (MR.putI (MR.putA mr1 (k := 38) (j := x2) (z := M1 0 40) (by decide)) (k := 40) (z := (M1 0 40) + 1) (by decide)).1 ?_
    refine X_iconst dX12_expression_74 (by decide) ?_
    refine X_isubN dX12_expression_75 (hc2.2 c3).2.2.2.2.1 (hc2.2 c3).2.2.2.2.2.1 ?_
    exact X_ret (z := (((M1 0 40) + 1) - 1)) dX12_expression_76 rfl (fun hv => vok_h hv) ⟨rfl, _, (hc2.2 c3).2.2.2.2.2.2, (MR.putI (MR.putA mr1 (k := 38) (j := x2) (z := M1 0 40) (by decide)) (k := 40) (z := (M1 0 40) + 1) (by decide)), (MF.putI (MF.putA mf1 (k := 38) (j := x2) (z := M1 0 40) (by decide)) (k := 40) (z := (M1 0 40) + 1))⟩
def B_fault_0 (rc : MP) (cl : MC) (Q : Int → Mem → Prop) (d : Nat) (x1 : Int) (M : Mem) : Prop := ((M 0 46) ≠ 0 → Q (-1) M) ∧ (¬ ((M 0 46) ≠ 0) → ((M 0 3) ≠ 1 → Q (-1) (up (up M 0 46 x1) 0 47 (M 0 4))) ∧ (¬ ((M 0 3) ≠ 1) → Q (-1) (up (up M 0 46 1) 0 47 (M 0 4))))
set_option maxRecDepth 10000 in
theorem s_fault_0 {l : Launch} {G : GT} {m : Int} {a : Int → Int} {d mc ms : Nat} {S : Sh} {Q : Int → Mem → Prop} {rc : MP} {cl : MC} {V0 V M : Mem} {x1 : Int} (hrc : RCok l G m a S V0 Q d mc ms rc) (hcl : CLok l G m a S d cl) (mr : MR m a S V M) (mf : MF m a V0 V) (hB : B_fault_0 rc cl Q d x1 M) : XJ l G bX12_fault (Qm m a S V0 Q) (d + 1) 0 [vr m, vi x1] [] S V mc ms := by
  unfold B_fault_0 at hB
  refine X_aload_n dX12_fault_0 rfl ?_
  refine X_getfield (ci := 12) (k := 46) (v := vi (M 0 46)) dX12_fault_1 rfl (by decide) kf_RX12_275 (congrArg vi (MR.in_ mr (k := 46) (by decide) rfl)) mr.1 ?_
  refine X_if_ne dX12_fault_4 (tgt := 32) rfl (fun c1 => ?_) (fun c1 => ?_)
  · refine X_iconst dX12_fault_32 (by decide) ?_
    exact X_ret (z := (-1)) dX12_fault_33 rfl (fun hv => vok_h hv) ⟨rfl, _, (hB.1 c1), mr, mf⟩
  · refine X_aload_n dX12_fault_7 rfl ?_
    refine X_aload_n dX12_fault_8 rfl ?_
    refine X_getfield (ci := 12) (k := 3) (v := vi (M 0 3)) dX12_fault_9 rfl (by decide) kf_RX12_205 (congrArg vi (MR.in_ mr (k := 3) (by decide) rfl)) mr.1 ?_
    refine X_iconst dX12_fault_12 (by decide) ?_
    refine X_icmp_ne dX12_fault_13 (tgt := 20) rfl (fun c2 => ?_) (fun c2 => ?_)
    · refine X_iload_n dX12_fault_20 rfl ?_
      refine X_putfield (ci := 12) (k := 46) (z := x1) dX12_fault_21 rfl (by decide) kf_RX12_275 (Or.inl rfl) (Or.inl rfl) rfl (fun hv => hv) mr.1 ?_
      refine X_aload_n dX12_fault_24 rfl ?_
      refine X_aload_n dX12_fault_25 rfl ?_
      refine X_getfield (ci := 12) (k := 4) (v := vi (M 0 4)) dX12_fault_26 rfl (by decide) kf_RX12_198 (congrArg vi (MR.in_ (MR.putI mr (k := 46) (z := x1) (by decide)) (k := 4) (by decide) (up_ne (Or.inr (by decide))))) (MR.putI mr (k := 46) (z := x1) (by decide)).1 ?_
      refine X_putfield (ci := 12) (k := 47) (z := (M 0 4)) dX12_fault_29 rfl (by decide) kf_RX12_278 (Or.inl rfl) (Or.inl rfl) rfl (fun hv => hv) (MR.putI mr (k := 46) (z := x1) (by decide)).1 ?_
      refine X_iconst dX12_fault_32 (by decide) ?_
      exact X_ret (z := (-1)) dX12_fault_33 rfl (fun hv => vok_h hv) ⟨rfl, _, ((hB.2 c1).1 c2), (MR.putI (MR.putI mr (k := 46) (z := x1) (by decide)) (k := 47) (z := M 0 4) (by decide)), (MF.putI (MF.putI mf (k := 46) (z := x1)) (k := 47) (z := M 0 4))⟩
    · refine X_iconst dX12_fault_16 (by decide) ?_
      refine X_goto dX12_fault_17 (tgt := 21) rfl ?_
      refine X_putfield (ci := 12) (k := 46) (z := 1) dX12_fault_21 rfl (by decide) kf_RX12_275 (Or.inl rfl) (Or.inl rfl) rfl (fun hv => hv) mr.1 ?_
      refine X_aload_n dX12_fault_24 rfl ?_
      refine X_aload_n dX12_fault_25 rfl ?_
      refine X_getfield (ci := 12) (k := 4) (v := vi (M 0 4)) dX12_fault_26 rfl (by decide) kf_RX12_198 (congrArg vi (MR.in_ (MR.putI mr (k := 46) (z := 1) (by decide)) (k := 4) (by decide) (up_ne (Or.inr (by decide))))) (MR.putI mr (k := 46) (z := 1) (by decide)).1 ?_
      refine X_putfield (ci := 12) (k := 47) (z := (M 0 4)) dX12_fault_29 rfl (by decide) kf_RX12_278 (Or.inl rfl) (Or.inl rfl) rfl (fun hv => hv) (MR.putI mr (k := 46) (z := 1) (by decide)).1 ?_
      refine X_iconst dX12_fault_32 (by decide) ?_
      exact X_ret (z := (-1)) dX12_fault_33 rfl (fun hv => vok_h hv) ⟨rfl, _, ((hB.2 c1).2 c2), (MR.putI (MR.putI mr (k := 46) (z := 1) (by decide)) (k := 47) (z := M 0 4) (by decide)), (MF.putI (MF.putI mf (k := 46) (z := 1)) (k := 47) (z := M 0 4))⟩
def B_sign_0 (rc : MP) (cl : MC) (Q : Int → Mem → Prop) (d : Nat) (x1 : Int) (M : Mem) : Prop := ((M 0 46) ≤ 0 → cl n_isSign_0 [x1] M (fun z2 M2 => (z2 = 0 → cl n_fault_0 [2] M2 (fun z5 M5 => Q 0 M5)) ∧ (¬ (z2 = 0) → cl n_next_0 [] M2 (fun z7 M7 => Q 0 M7)))) ∧ (¬ ((M 0 46) ≤ 0) → Q 0 M)
set_option maxRecDepth 10000 in
theorem s_sign_0 {l : Launch} {G : GT} {m : Int} {a : Int → Int} {d mc ms : Nat} {S : Sh} {Q : Int → Mem → Prop} {rc : MP} {cl : MC} {V0 V M : Mem} {x1 : Int} (hrc : RCok l G m a S V0 Q d mc ms rc) (hcl : CLok l G m a S d cl) (mr : MR m a S V M) (mf : MF m a V0 V) (hB : B_sign_0 rc cl Q d x1 M) : XJ l G bX12_sign (Qm m a S V0 Q) (d + 1) 0 [vr m, vi x1, vu] [] S V mc ms := by
  unfold B_sign_0 at hB
  refine X_aload_n dX12_sign_0 rfl ?_
  refine X_getfield (ci := 12) (k := 46) (v := vi (M 0 46)) dX12_sign_1 rfl (by decide) kf_RX12_275 (congrArg vi (MR.in_ mr (k := 46) (by decide) rfl)) mr.1 ?_
  refine X_if_le dX12_sign_4 (tgt := 8) rfl (fun c1 => ?_) (fun c1 => ?_)
  · refine X_aload_n dX12_sign_8 rfl ?_
    refine X_iload_n dX12_sign_9 rfl ?_
    refine X_invV (ci := 12) (as := [vi x1]) (st := []) okX12_isSign dX12_sign_10 km_RX12_281 rfl rfl (Nat.le_of_ble_eq_true rfl) rfl rfl mr.1 (CT.of d 0 0 (hcl n_isSign_0 rfl [x1] _ _ _ (hB.1 c1) mr) (Nat.le_refl _) (Nat.zero_le _) (Nat.zero_le _) (fun z2 S2 V2 hq2 => ?_))
    obtain ⟨rfl, M2, hc3, mr2, hf2⟩ := hq2
    have mf2 := MF.trans mf hf2
    refine X_if_eq dX12_sign_13 (tgt := 23) rfl (fun c4 => ?_) (fun c4 => ?_)
    · refine X_aload_n dX12_sign_23 rfl ?_
      refine X_iconst dX12_sign_24 (by decide) ?_
      refine X_invV (ci := 12) (as := [vi 2]) (st := []) okX12_fault dX12_sign_25 km_RX12_288 rfl rfl (Nat.le_of_ble_eq_true rfl) rfl rfl mr2.1 (CT.of d 0 0 (hcl n_fault_0 rfl [2] _ _ _ (hc3.1 c4) mr2) (Nat.le_refl _) (Nat.zero_le _) (Nat.zero_le _) (fun z5 S5 V5 hq5 => ?_))
      obtain ⟨rfl, M5, hc6, mr5, hf5⟩ := hq5
      have mf5 := MF.trans mf2 hf5
      refine X_istore_n dX12_sign_28 (by decide) rfl ?_
      exact X_ret (z := 0) dX12_sign_29 rfl (fun _ => trivial) ⟨rfl, _, hc6, mr5, mf5⟩
    · refine X_aload_n dX12_sign_16 rfl ?_
      refine X_invV (ci := 12) (as := []) (st := []) okX12_next dX12_sign_17 km_RX12_285 rfl rfl (Nat.le_of_ble_eq_true rfl) rfl rfl mr2.1 (CT.of d 0 0 (hcl n_next_0 rfl [] _ _ _ (hc3.2 c4) mr2) (Nat.le_refl _) (Nat.zero_le _) (Nat.zero_le _) (fun z7 S7 V7 hq7 => ?_))
      obtain ⟨rfl, M7, hc8, mr7, hf7⟩ := hq7
      have mf7 := MF.trans mf2 hf7
      refine X_goto dX12_sign_20 (tgt := 29) rfl ?_
      exact X_ret (z := 0) dX12_sign_29 rfl (fun _ => trivial) ⟨rfl, _, hc8, mr7, mf7⟩
  · exact X_ret (z := 0) dX12_sign_7 rfl (fun _ => trivial) ⟨rfl, _, (hB.2 c1), mr, mf⟩
def B_newName_0 (rc : MP) (cl : MC) (Q : Int → Mem → Prop) (d : Nat) (x1 : Int) (M : Mem) : Prop := ((M 0 46) ≤ 0 → cl n_isName_0 [] M (fun z2 M2 => (z2 ≠ 0 → (x1 = 0 → cl n_nameHere_0 [] M2 (fun z6 M6 => Q z6 M6)) ∧ (¬ (x1 = 0) → cl n_fault_0 [3] M2 (fun z8 M8 => Q z8 M8))) ∧ (¬ (z2 ≠ 0) → cl n_fault_0 [2] M2 (fun z10 M10 => Q z10 M10)))) ∧ (¬ ((M 0 46) ≤ 0) → Q (-1) M)
set_option maxRecDepth 10000 in
theorem s_newName_0 {l : Launch} {G : GT} {m : Int} {a : Int → Int} {d mc ms : Nat} {S : Sh} {Q : Int → Mem → Prop} {rc : MP} {cl : MC} {V0 V M : Mem} {x1 : Int} (hrc : RCok l G m a S V0 Q d mc ms rc) (hcl : CLok l G m a S d cl) (mr : MR m a S V M) (mf : MF m a V0 V) (hB : B_newName_0 rc cl Q d x1 M) : XJ l G bX12_newName (Qm m a S V0 Q) (d + 1) 0 [vr m, vi x1] [] S V mc ms := by
  unfold B_newName_0 at hB
  refine X_aload_n dX12_newName_0 rfl ?_
  refine X_getfield (ci := 12) (k := 46) (v := vi (M 0 46)) dX12_newName_1 rfl (by decide) kf_RX12_275 (congrArg vi (MR.in_ mr (k := 46) (by decide) rfl)) mr.1 ?_
  refine X_if_le dX12_newName_4 (tgt := 9) rfl (fun c1 => ?_) (fun c1 => ?_)
  · refine X_aload_n dX12_newName_9 rfl ?_
    refine X_invV (ci := 12) (as := []) (st := []) okX12_isName dX12_newName_10 km_RX12_291 rfl rfl (Nat.le_of_ble_eq_true rfl) rfl rfl mr.1 (CT.of d 0 0 (hcl n_isName_0 rfl [] _ _ _ (hB.1 c1) mr) (Nat.le_refl _) (Nat.zero_le _) (Nat.zero_le _) (fun z2 S2 V2 hq2 => ?_))
    obtain ⟨rfl, M2, hc3, mr2, hf2⟩ := hq2
    have mf2 := MF.trans mf hf2
    refine X_if_ne dX12_newName_13 (tgt := 22) rfl (fun c4 => ?_) (fun c4 => ?_)
    · refine X_iload_n dX12_newName_22 rfl ?_
      refine X_if_eq dX12_newName_23 (tgt := 32) rfl (fun c5 => ?_) (fun c5 => ?_)
      · refine X_aload_n dX12_newName_32 rfl ?_
        refine X_invV (ci := 12) (as := []) (st := []) okX12_nameHere dX12_newName_33 km_RX12_294 rfl rfl (Nat.le_of_ble_eq_true rfl) rfl rfl mr2.1 (CT.of d 0 0 (hcl n_nameHere_0 rfl [] _ _ _ ((hc3.1 c4).1 c5) mr2) (Nat.le_refl _) (Nat.zero_le _) (Nat.zero_le _) (fun z6 S6 V6 hq6 => ?_))
        obtain ⟨rfl, M6, hc7, mr6, hf6⟩ := hq6
        have mf6 := MF.trans mf2 hf6
        exact X_ret (z := z6) dX12_newName_36 rfl (fun hv => vok_h hv) ⟨rfl, _, hc7, mr6, mf6⟩
      · refine X_aload_n dX12_newName_26 rfl ?_
        refine X_iconst dX12_newName_27 (by decide) ?_
        refine X_invV (ci := 12) (as := [vi 3]) (st := []) okX12_fault dX12_newName_28 km_RX12_288 rfl rfl (Nat.le_of_ble_eq_true rfl) rfl rfl mr2.1 (CT.of d 0 0 (hcl n_fault_0 rfl [3] _ _ _ ((hc3.1 c4).2 c5) mr2) (Nat.le_refl _) (Nat.zero_le _) (Nat.zero_le _) (fun z8 S8 V8 hq8 => ?_))
        obtain ⟨rfl, M8, hc9, mr8, hf8⟩ := hq8
        have mf8 := MF.trans mf2 hf8
        exact X_ret (z := z8) dX12_newName_31 rfl (fun hv => vok_h hv) ⟨rfl, _, hc9, mr8, mf8⟩
    · refine X_aload_n dX12_newName_16 rfl ?_
      refine X_iconst dX12_newName_17 (by decide) ?_
      refine X_invV (ci := 12) (as := [vi 2]) (st := []) okX12_fault dX12_newName_18 km_RX12_288 rfl rfl (Nat.le_of_ble_eq_true rfl) rfl rfl mr2.1 (CT.of d 0 0 (hcl n_fault_0 rfl [2] _ _ _ (hc3.2 c4) mr2) (Nat.le_refl _) (Nat.zero_le _) (Nat.zero_le _) (fun z10 S10 V10 hq10 => ?_))
      obtain ⟨rfl, M10, hc11, mr10, hf10⟩ := hq10
      have mf10 := MF.trans mf2 hf10
      exact X_ret (z := z10) dX12_newName_21 rfl (fun hv => vok_h hv) ⟨rfl, _, hc11, mr10, mf10⟩
  · refine X_iconst dX12_newName_7 (by decide) ?_
    exact X_ret (z := (-1)) dX12_newName_8 rfl (fun hv => vok_h hv) ⟨rfl, _, (hB.2 c1), mr, mf⟩
def B_tells_0 (rc : MP) (cl : MC) (Q : Int → Mem → Prop) (d : Nat) (M : Mem) : Prop := ((M 0 3) = 2 → cl n_nameHere_0 [] M (fun z2 M2 => rc n_tells_19 [z2, 0, 0] M2)) ∧ (¬ ((M 0 3) = 2) → Q 0 M)
set_option maxRecDepth 10000 in
theorem s_tells_0 {l : Launch} {G : GT} {m : Int} {a : Int → Int} {d mc ms : Nat} {S : Sh} {Q : Int → Mem → Prop} {rc : MP} {cl : MC} {V0 V M : Mem} (hrc : RCok l G m a S V0 Q d mc ms rc) (hcl : CLok l G m a S d cl) (mr : MR m a S V M) (mf : MF m a V0 V) (hB : B_tells_0 rc cl Q d  M) : XJ l G bX12_tells (Qm m a S V0 Q) (d + 1) 0 [vr m, vu, vu, vu] [] S V mc ms := by
  unfold B_tells_0 at hB
  refine X_aload_n dX12_tells_0 rfl ?_
  refine X_getfield (ci := 12) (k := 3) (v := vi (M 0 3)) dX12_tells_1 rfl (by decide) kf_RX12_205 (congrArg vi (MR.in_ mr (k := 3) (by decide) rfl)) mr.1 ?_
  refine X_iconst dX12_tells_4 (by decide) ?_
  refine X_icmp_eq dX12_tells_5 (tgt := 10) rfl (fun c1 => ?_) (fun c1 => ?_)
  · refine X_aload_n dX12_tells_10 rfl ?_
    refine X_invV (ci := 12) (as := []) (st := []) okX12_nameHere dX12_tells_11 km_RX12_294 rfl rfl (Nat.le_of_ble_eq_true rfl) rfl rfl mr.1 (CT.of d 0 0 (hcl n_nameHere_0 rfl [] _ _ _ (hB.1 c1) mr) (Nat.le_refl _) (Nat.zero_le _) (Nat.zero_le _) (fun z2 S2 V2 hq2 => ?_))
    obtain ⟨rfl, M2, hc3, mr2, hf2⟩ := hq2
    have mf2 := MF.trans mf hf2
    refine X_istore_n dX12_tells_14 (by decide) rfl ?_
    refine X_iconst dX12_tells_15 (by decide) ?_
    refine X_istore_n dX12_tells_16 (by decide) rfl ?_
    refine X_iconst dX12_tells_17 (by decide) ?_
    refine X_istore_n dX12_tells_18 (by decide) rfl ?_
    exact hrc n_tells_19 [z2, 0, 0] _ _ hc3 mr2 mf2
  · refine X_iconst dX12_tells_8 (by decide) ?_
    exact X_ret (z := 0) dX12_tells_9 rfl (fun _ => Or.inl rfl) ⟨rfl, _, (hB.2 c1), mr, mf⟩
def B_tells_19 (rc : MP) (cl : MC) (Q : Int → Mem → Prop) (d : Nat) (x1 x2 x3 : Int) (M : Mem) : Prop := 0 ≤ (M 0 41) ∧ (M 0 41) < 120 ∧ ((M 14 (M 0 41)) ≤ x3 → rc n_tells_72 [x1, x2, 0] M) ∧ (¬ ((M 14 (M 0 41)) ≤ x3) → (x2 ≠ 0 → -2147483648 ≤ x3 + 1 ∧ x3 + 1 ≤ 2147483647 ∧ rc n_tells_19 [x1, 1, x3 + 1] M) ∧ (¬ (x2 ≠ 0) → -2147483648 ≤ 24 * (M 0 41) ∧ 24 * (M 0 41) ≤ 2147483647 ∧ -2147483648 ≤ (24 * (M 0 41)) + x3 ∧ (24 * (M 0 41)) + x3 ≤ 2147483647 ∧ 0 ≤ ((24 * (M 0 41)) + x3) ∧ ((24 * (M 0 41)) + x3) < 2880 ∧ cl n_isSame_0 [x1, M 20 ((24 * (M 0 41)) + x3)] M (fun z3 M3 => (z3 = 0 → -2147483648 ≤ x3 + 1 ∧ x3 + 1 ≤ 2147483647 ∧ rc n_tells_19 [x1, 0, x3 + 1] M3) ∧ (¬ (z3 = 0) → -2147483648 ≤ x3 + 1 ∧ x3 + 1 ≤ 2147483647 ∧ rc n_tells_19 [x1, 1, x3 + 1] M3))))
set_option maxRecDepth 10000 in
theorem s_tells_19 {l : Launch} {G : GT} {m : Int} {a : Int → Int} {d mc ms : Nat} {S : Sh} {Q : Int → Mem → Prop} {rc : MP} {cl : MC} {V0 V M : Mem} {x1 x2 x3 : Int} (hrc : RCok l G m a S V0 Q d mc ms rc) (hcl : CLok l G m a S d cl) (mr : MR m a S V M) (mf : MF m a V0 V) (hB : B_tells_19 rc cl Q d x1 x2 x3 M) : XJ l G bX12_tells (Qm m a S V0 Q) (d + 1) 19 [vr m, vi x1, vi x2, vi x3] [] S V mc ms := by
  unfold B_tells_19 at hB
  refine X_iload_n dX12_tells_19 rfl ?_
  refine X_aload_n dX12_tells_20 rfl ?_
  refine X_getfield (ci := 12) (k := 14) (v := vr (a 14)) dX12_tells_21 rfl (by decide) kf_RX12_29 (congrArg vr (MR.ar mr (k := 14) (by decide)).1) mr.1 ?_
  refine X_aload_n dX12_tells_24 rfl ?_
  refine X_getfield (ci := 12) (k := 41) (v := vi (M 0 41)) dX12_tells_25 rfl (by decide) kf_RX12_269 (congrArg vi (MR.in_ mr (k := 41) (by decide) rfl)) mr.1 ?_
  refine X_iaload dX12_tells_28 ((MR.ar mr (k := 14) (by decide)).2.1.trans (by decide)) hB.1 (lt_eq hB.2.1 (MR.ln mr (k := 14) (by decide) (by decide))) ?_
  refine X_top (v := vi (M 14 (M 0 41))) (congrArg vi (MR.el mr (k := 14) (by decide) rfl)) ?_
  refine X_icmp_ge dX12_tells_29 (tgt := 70) rfl (fun c1 => ?_) (fun c1 => ?_)
  · refine X_iconst dX12_tells_70 (by decide) ?_
    refine X_istore_n dX12_tells_71 (by decide) rfl ?_
    exact hrc n_tells_72 [x1, x2, 0] _ _ (hB.2.2.1 c1) mr mf
  · refine X_iload_n dX12_tells_32 rfl ?_
    refine X_if_ne dX12_tells_33 (tgt := 58) rfl (fun c2 => ?_) (fun c2 => ?_)
    · refine X_iconst dX12_tells_58 (by decide) ?_
      refine X_goto dX12_tells_59 (tgt := 63) rfl ?_
      refine X_istore_n dX12_tells_63 (by decide) rfl ?_
      refine X_iincN dX12_tells_64 rfl (by decide) rfl (e := x3 + 1) rfl ((hB.2.2.2 c1).1 c2).1 ((hB.2.2.2 c1).1 c2).2.1 ?_
      refine X_goto dX12_tells_67 (tgt := 19) rfl ?_
      exact hrc n_tells_19 [x1, 1, x3 + 1] _ _ ((hB.2.2.2 c1).1 c2).2.2 mr mf
    · refine X_aload_n dX12_tells_36 rfl ?_
      refine X_iload_n dX12_tells_37 rfl ?_
      refine X_aload_n dX12_tells_38 rfl ?_
      refine X_getfield (ci := 12) (k := 20) (v := vr (a 20)) dX12_tells_39 rfl (by decide) kf_RX12_47 (congrArg vr (MR.ar mr (k := 20) (by decide)).1) mr.1 ?_
      refine X_bipush dX12_tells_42 (by decide) (by decide) ?_
      refine X_aload_n dX12_tells_44 rfl ?_
      refine X_getfield (ci := 12) (k := 41) (v := vi (M 0 41)) dX12_tells_45 rfl (by decide) kf_RX12_269 (congrArg vi (MR.in_ mr (k := 41) (by decide) rfl)) mr.1 ?_
      refine X_imulN dX12_tells_48 ((hB.2.2.2 c1).2 c2).1 ((hB.2.2.2 c1).2 c2).2.1 ?_
      refine X_iload_n dX12_tells_49 rfl ?_
      refine X_iaddN dX12_tells_50 ((hB.2.2.2 c1).2 c2).2.2.1 ((hB.2.2.2 c1).2 c2).2.2.2.1 ?_
      refine X_iaload dX12_tells_51 ((MR.ar mr (k := 20) (by decide)).2.1.trans (by decide)) ((hB.2.2.2 c1).2 c2).2.2.2.2.1 (lt_eq ((hB.2.2.2 c1).2 c2).2.2.2.2.2.1 (MR.ln mr (k := 20) (by decide) (by decide))) ?_
      refine X_top (v := vi (M 20 ((24 * (M 0 41)) + x3))) (congrArg vi (MR.el mr (k := 20) (by decide) rfl)) ?_
      refine X_invV (ci := 12) (as := [vi x1, vi (M 20 ((24 * (M 0 41)) + x3))]) (st := []) okX12_isSame dX12_tells_52 km_RX12_297 rfl rfl (Nat.le_of_ble_eq_true rfl) rfl rfl mr.1 (CT.of d 0 0 (hcl n_isSame_0 rfl [x1, M 20 ((24 * (M 0 41)) + x3)] _ _ _ ((hB.2.2.2 c1).2 c2).2.2.2.2.2.2 mr) (Nat.le_refl _) (Nat.zero_le _) (Nat.zero_le _) (fun z3 S3 V3 hq3 => ?_))
      obtain ⟨rfl, M3, hc4, mr3, hf3⟩ := hq3
      have mf3 := MF.trans mf hf3
      refine X_if_eq dX12_tells_55 (tgt := 62) rfl (fun c5 => ?_) (fun c5 => ?_)
      · refine X_iconst dX12_tells_62 (by decide) ?_
        refine X_istore_n dX12_tells_63 (by decide) rfl ?_
        refine X_iincN dX12_tells_64 rfl (by decide) rfl (e := x3 + 1) rfl (hc4.1 c5).1 (hc4.1 c5).2.1 ?_
        refine X_goto dX12_tells_67 (tgt := 19) rfl ?_
        exact hrc n_tells_19 [x1, 0, x3 + 1] _ _ (hc4.1 c5).2.2 mr3 mf3
      · refine X_iconst dX12_tells_58 (by decide) ?_
        refine X_goto dX12_tells_59 (tgt := 63) rfl ?_
        refine X_istore_n dX12_tells_63 (by decide) rfl ?_
        refine X_iincN dX12_tells_64 rfl (by decide) rfl (e := x3 + 1) rfl (hc4.2 c5).1 (hc4.2 c5).2.1 ?_
        refine X_goto dX12_tells_67 (tgt := 19) rfl ?_
        exact hrc n_tells_19 [x1, 1, x3 + 1] _ _ (hc4.2 c5).2.2 mr3 mf3
def B_tells_72 (rc : MP) (cl : MC) (Q : Int → Mem → Prop) (d : Nat) (x1 x2 x3 : Int) (M : Mem) : Prop := 0 ≤ (M 0 41) ∧ (M 0 41) < 120 ∧ ((M 15 (M 0 41)) ≤ x3 → rc n_tells_124 [x1, x2, 0] M) ∧ (¬ ((M 15 (M 0 41)) ≤ x3) → (x2 ≠ 0 → -2147483648 ≤ x3 + 1 ∧ x3 + 1 ≤ 2147483647 ∧ rc n_tells_72 [x1, 1, x3 + 1] M) ∧ (¬ (x2 ≠ 0) → -2147483648 ≤ 4 * (M 0 41) ∧ 4 * (M 0 41) ≤ 2147483647 ∧ -2147483648 ≤ (4 * (M 0 41)) + x3 ∧ (4 * (M 0 41)) + x3 ≤ 2147483647 ∧ 0 ≤ ((4 * (M 0 41)) + x3) ∧ ((4 * (M 0 41)) + x3) < 480 ∧ cl n_isSame_0 [x1, M 23 ((4 * (M 0 41)) + x3)] M (fun z3 M3 => (z3 = 0 → -2147483648 ≤ x3 + 1 ∧ x3 + 1 ≤ 2147483647 ∧ rc n_tells_72 [x1, 0, x3 + 1] M3) ∧ (¬ (z3 = 0) → -2147483648 ≤ x3 + 1 ∧ x3 + 1 ≤ 2147483647 ∧ rc n_tells_72 [x1, 1, x3 + 1] M3))))
set_option maxRecDepth 10000 in
theorem s_tells_72 {l : Launch} {G : GT} {m : Int} {a : Int → Int} {d mc ms : Nat} {S : Sh} {Q : Int → Mem → Prop} {rc : MP} {cl : MC} {V0 V M : Mem} {x1 x2 x3 : Int} (hrc : RCok l G m a S V0 Q d mc ms rc) (hcl : CLok l G m a S d cl) (mr : MR m a S V M) (mf : MF m a V0 V) (hB : B_tells_72 rc cl Q d x1 x2 x3 M) : XJ l G bX12_tells (Qm m a S V0 Q) (d + 1) 72 [vr m, vi x1, vi x2, vi x3] [] S V mc ms := by
  unfold B_tells_72 at hB
  refine X_iload_n dX12_tells_72 rfl ?_
  refine X_aload_n dX12_tells_73 rfl ?_
  refine X_getfield (ci := 12) (k := 15) (v := vr (a 15)) dX12_tells_74 rfl (by decide) kf_RX12_32 (congrArg vr (MR.ar mr (k := 15) (by decide)).1) mr.1 ?_
  refine X_aload_n dX12_tells_77 rfl ?_
  refine X_getfield (ci := 12) (k := 41) (v := vi (M 0 41)) dX12_tells_78 rfl (by decide) kf_RX12_269 (congrArg vi (MR.in_ mr (k := 41) (by decide) rfl)) mr.1 ?_
  refine X_iaload dX12_tells_81 ((MR.ar mr (k := 15) (by decide)).2.1.trans (by decide)) hB.1 (lt_eq hB.2.1 (MR.ln mr (k := 15) (by decide) (by decide))) ?_
  refine X_top (v := vi (M 15 (M 0 41))) (congrArg vi (MR.el mr (k := 15) (by decide) rfl)) ?_
  refine X_icmp_ge dX12_tells_82 (tgt := 122) rfl (fun c1 => ?_) (fun c1 => ?_)
  · refine X_iconst dX12_tells_122 (by decide) ?_
    refine X_istore_n dX12_tells_123 (by decide) rfl ?_
    exact hrc n_tells_124 [x1, x2, 0] _ _ (hB.2.2.1 c1) mr mf
  · refine X_iload_n dX12_tells_85 rfl ?_
    refine X_if_ne dX12_tells_86 (tgt := 110) rfl (fun c2 => ?_) (fun c2 => ?_)
    · refine X_iconst dX12_tells_110 (by decide) ?_
      refine X_goto dX12_tells_111 (tgt := 115) rfl ?_
      refine X_istore_n dX12_tells_115 (by decide) rfl ?_
      refine X_iincN dX12_tells_116 rfl (by decide) rfl (e := x3 + 1) rfl ((hB.2.2.2 c1).1 c2).1 ((hB.2.2.2 c1).1 c2).2.1 ?_
      refine X_goto dX12_tells_119 (tgt := 72) rfl ?_
      exact hrc n_tells_72 [x1, 1, x3 + 1] _ _ ((hB.2.2.2 c1).1 c2).2.2 mr mf
    · refine X_aload_n dX12_tells_89 rfl ?_
      refine X_iload_n dX12_tells_90 rfl ?_
      refine X_aload_n dX12_tells_91 rfl ?_
      refine X_getfield (ci := 12) (k := 23) (v := vr (a 23)) dX12_tells_92 rfl (by decide) kf_RX12_56 (congrArg vr (MR.ar mr (k := 23) (by decide)).1) mr.1 ?_
      refine X_iconst dX12_tells_95 (by decide) ?_
      refine X_aload_n dX12_tells_96 rfl ?_
      refine X_getfield (ci := 12) (k := 41) (v := vi (M 0 41)) dX12_tells_97 rfl (by decide) kf_RX12_269 (congrArg vi (MR.in_ mr (k := 41) (by decide) rfl)) mr.1 ?_
      refine X_imulN dX12_tells_100 ((hB.2.2.2 c1).2 c2).1 ((hB.2.2.2 c1).2 c2).2.1 ?_
      refine X_iload_n dX12_tells_101 rfl ?_
      refine X_iaddN dX12_tells_102 ((hB.2.2.2 c1).2 c2).2.2.1 ((hB.2.2.2 c1).2 c2).2.2.2.1 ?_
      refine X_iaload dX12_tells_103 ((MR.ar mr (k := 23) (by decide)).2.1.trans (by decide)) ((hB.2.2.2 c1).2 c2).2.2.2.2.1 (lt_eq ((hB.2.2.2 c1).2 c2).2.2.2.2.2.1 (MR.ln mr (k := 23) (by decide) (by decide))) ?_
      refine X_top (v := vi (M 23 ((4 * (M 0 41)) + x3))) (congrArg vi (MR.el mr (k := 23) (by decide) rfl)) ?_
      refine X_invV (ci := 12) (as := [vi x1, vi (M 23 ((4 * (M 0 41)) + x3))]) (st := []) okX12_isSame dX12_tells_104 km_RX12_297 rfl rfl (Nat.le_of_ble_eq_true rfl) rfl rfl mr.1 (CT.of d 0 0 (hcl n_isSame_0 rfl [x1, M 23 ((4 * (M 0 41)) + x3)] _ _ _ ((hB.2.2.2 c1).2 c2).2.2.2.2.2.2 mr) (Nat.le_refl _) (Nat.zero_le _) (Nat.zero_le _) (fun z3 S3 V3 hq3 => ?_))
      obtain ⟨rfl, M3, hc4, mr3, hf3⟩ := hq3
      have mf3 := MF.trans mf hf3
      refine X_if_eq dX12_tells_107 (tgt := 114) rfl (fun c5 => ?_) (fun c5 => ?_)
      · refine X_iconst dX12_tells_114 (by decide) ?_
        refine X_istore_n dX12_tells_115 (by decide) rfl ?_
        refine X_iincN dX12_tells_116 rfl (by decide) rfl (e := x3 + 1) rfl (hc4.1 c5).1 (hc4.1 c5).2.1 ?_
        refine X_goto dX12_tells_119 (tgt := 72) rfl ?_
        exact hrc n_tells_72 [x1, 0, x3 + 1] _ _ (hc4.1 c5).2.2 mr3 mf3
      · refine X_iconst dX12_tells_110 (by decide) ?_
        refine X_goto dX12_tells_111 (tgt := 115) rfl ?_
        refine X_istore_n dX12_tells_115 (by decide) rfl ?_
        refine X_iincN dX12_tells_116 rfl (by decide) rfl (e := x3 + 1) rfl (hc4.2 c5).1 (hc4.2 c5).2.1 ?_
        refine X_goto dX12_tells_119 (tgt := 72) rfl ?_
        exact hrc n_tells_72 [x1, 1, x3 + 1] _ _ (hc4.2 c5).2.2 mr3 mf3
def B_tells_124 (rc : MP) (cl : MC) (Q : Int → Mem → Prop) (d : Nat) (x1 x2 x3 : Int) (M : Mem) : Prop := 0 ≤ (M 0 41) ∧ (M 0 41) < 120 ∧ ((M 17 (M 0 41)) ≤ x3 → rc n_tells_176 [x1, x2, 0] M) ∧ (¬ ((M 17 (M 0 41)) ≤ x3) → (x2 ≠ 0 → -2147483648 ≤ x3 + 1 ∧ x3 + 1 ≤ 2147483647 ∧ rc n_tells_124 [x1, 1, x3 + 1] M) ∧ (¬ (x2 ≠ 0) → -2147483648 ≤ 4 * (M 0 41) ∧ 4 * (M 0 41) ≤ 2147483647 ∧ -2147483648 ≤ (4 * (M 0 41)) + x3 ∧ (4 * (M 0 41)) + x3 ≤ 2147483647 ∧ 0 ≤ ((4 * (M 0 41)) + x3) ∧ ((4 * (M 0 41)) + x3) < 480 ∧ cl n_isSame_0 [x1, M 27 ((4 * (M 0 41)) + x3)] M (fun z3 M3 => (z3 = 0 → -2147483648 ≤ x3 + 1 ∧ x3 + 1 ≤ 2147483647 ∧ rc n_tells_124 [x1, 0, x3 + 1] M3) ∧ (¬ (z3 = 0) → -2147483648 ≤ x3 + 1 ∧ x3 + 1 ≤ 2147483647 ∧ rc n_tells_124 [x1, 1, x3 + 1] M3))))
set_option maxRecDepth 10000 in
theorem s_tells_124 {l : Launch} {G : GT} {m : Int} {a : Int → Int} {d mc ms : Nat} {S : Sh} {Q : Int → Mem → Prop} {rc : MP} {cl : MC} {V0 V M : Mem} {x1 x2 x3 : Int} (hrc : RCok l G m a S V0 Q d mc ms rc) (hcl : CLok l G m a S d cl) (mr : MR m a S V M) (mf : MF m a V0 V) (hB : B_tells_124 rc cl Q d x1 x2 x3 M) : XJ l G bX12_tells (Qm m a S V0 Q) (d + 1) 124 [vr m, vi x1, vi x2, vi x3] [] S V mc ms := by
  unfold B_tells_124 at hB
  refine X_iload_n dX12_tells_124 rfl ?_
  refine X_aload_n dX12_tells_125 rfl ?_
  refine X_getfield (ci := 12) (k := 17) (v := vr (a 17)) dX12_tells_126 rfl (by decide) kf_RX12_38 (congrArg vr (MR.ar mr (k := 17) (by decide)).1) mr.1 ?_
  refine X_aload_n dX12_tells_129 rfl ?_
  refine X_getfield (ci := 12) (k := 41) (v := vi (M 0 41)) dX12_tells_130 rfl (by decide) kf_RX12_269 (congrArg vi (MR.in_ mr (k := 41) (by decide) rfl)) mr.1 ?_
  refine X_iaload dX12_tells_133 ((MR.ar mr (k := 17) (by decide)).2.1.trans (by decide)) hB.1 (lt_eq hB.2.1 (MR.ln mr (k := 17) (by decide) (by decide))) ?_
  refine X_top (v := vi (M 17 (M 0 41))) (congrArg vi (MR.el mr (k := 17) (by decide) rfl)) ?_
  refine X_icmp_ge dX12_tells_134 (tgt := 174) rfl (fun c1 => ?_) (fun c1 => ?_)
  · refine X_iconst dX12_tells_174 (by decide) ?_
    refine X_istore_n dX12_tells_175 (by decide) rfl ?_
    exact hrc n_tells_176 [x1, x2, 0] _ _ (hB.2.2.1 c1) mr mf
  · refine X_iload_n dX12_tells_137 rfl ?_
    refine X_if_ne dX12_tells_138 (tgt := 162) rfl (fun c2 => ?_) (fun c2 => ?_)
    · refine X_iconst dX12_tells_162 (by decide) ?_
      refine X_goto dX12_tells_163 (tgt := 167) rfl ?_
      refine X_istore_n dX12_tells_167 (by decide) rfl ?_
      refine X_iincN dX12_tells_168 rfl (by decide) rfl (e := x3 + 1) rfl ((hB.2.2.2 c1).1 c2).1 ((hB.2.2.2 c1).1 c2).2.1 ?_
      refine X_goto dX12_tells_171 (tgt := 124) rfl ?_
      exact hrc n_tells_124 [x1, 1, x3 + 1] _ _ ((hB.2.2.2 c1).1 c2).2.2 mr mf
    · refine X_aload_n dX12_tells_141 rfl ?_
      refine X_iload_n dX12_tells_142 rfl ?_
      refine X_aload_n dX12_tells_143 rfl ?_
      refine X_getfield (ci := 12) (k := 27) (v := vr (a 27)) dX12_tells_144 rfl (by decide) kf_RX12_68 (congrArg vr (MR.ar mr (k := 27) (by decide)).1) mr.1 ?_
      refine X_iconst dX12_tells_147 (by decide) ?_
      refine X_aload_n dX12_tells_148 rfl ?_
      refine X_getfield (ci := 12) (k := 41) (v := vi (M 0 41)) dX12_tells_149 rfl (by decide) kf_RX12_269 (congrArg vi (MR.in_ mr (k := 41) (by decide) rfl)) mr.1 ?_
      refine X_imulN dX12_tells_152 ((hB.2.2.2 c1).2 c2).1 ((hB.2.2.2 c1).2 c2).2.1 ?_
      refine X_iload_n dX12_tells_153 rfl ?_
      refine X_iaddN dX12_tells_154 ((hB.2.2.2 c1).2 c2).2.2.1 ((hB.2.2.2 c1).2 c2).2.2.2.1 ?_
      refine X_iaload dX12_tells_155 ((MR.ar mr (k := 27) (by decide)).2.1.trans (by decide)) ((hB.2.2.2 c1).2 c2).2.2.2.2.1 (lt_eq ((hB.2.2.2 c1).2 c2).2.2.2.2.2.1 (MR.ln mr (k := 27) (by decide) (by decide))) ?_
      refine X_top (v := vi (M 27 ((4 * (M 0 41)) + x3))) (congrArg vi (MR.el mr (k := 27) (by decide) rfl)) ?_
      refine X_invV (ci := 12) (as := [vi x1, vi (M 27 ((4 * (M 0 41)) + x3))]) (st := []) okX12_isSame dX12_tells_156 km_RX12_297 rfl rfl (Nat.le_of_ble_eq_true rfl) rfl rfl mr.1 (CT.of d 0 0 (hcl n_isSame_0 rfl [x1, M 27 ((4 * (M 0 41)) + x3)] _ _ _ ((hB.2.2.2 c1).2 c2).2.2.2.2.2.2 mr) (Nat.le_refl _) (Nat.zero_le _) (Nat.zero_le _) (fun z3 S3 V3 hq3 => ?_))
      obtain ⟨rfl, M3, hc4, mr3, hf3⟩ := hq3
      have mf3 := MF.trans mf hf3
      refine X_if_eq dX12_tells_159 (tgt := 166) rfl (fun c5 => ?_) (fun c5 => ?_)
      · refine X_iconst dX12_tells_166 (by decide) ?_
        refine X_istore_n dX12_tells_167 (by decide) rfl ?_
        refine X_iincN dX12_tells_168 rfl (by decide) rfl (e := x3 + 1) rfl (hc4.1 c5).1 (hc4.1 c5).2.1 ?_
        refine X_goto dX12_tells_171 (tgt := 124) rfl ?_
        exact hrc n_tells_124 [x1, 0, x3 + 1] _ _ (hc4.1 c5).2.2 mr3 mf3
      · refine X_iconst dX12_tells_162 (by decide) ?_
        refine X_goto dX12_tells_163 (tgt := 167) rfl ?_
        refine X_istore_n dX12_tells_167 (by decide) rfl ?_
        refine X_iincN dX12_tells_168 rfl (by decide) rfl (e := x3 + 1) rfl (hc4.2 c5).1 (hc4.2 c5).2.1 ?_
        refine X_goto dX12_tells_171 (tgt := 124) rfl ?_
        exact hrc n_tells_124 [x1, 1, x3 + 1] _ _ (hc4.2 c5).2.2 mr3 mf3
def B_tells_176 (rc : MP) (cl : MC) (Q : Int → Mem → Prop) (d : Nat) (x1 x2 x3 : Int) (M : Mem) : Prop := 0 ≤ (M 0 41) ∧ (M 0 41) < 120 ∧ ((M 18 (M 0 41)) ≤ x3 → (x2 = 0 ∨ x2 = 1) ∧ Q x2 M) ∧ (¬ ((M 18 (M 0 41)) ≤ x3) → (x2 ≠ 0 → -2147483648 ≤ x3 + 1 ∧ x3 + 1 ≤ 2147483647 ∧ rc n_tells_176 [x1, 1, x3 + 1] M) ∧ (¬ (x2 ≠ 0) → -2147483648 ≤ 3 * (M 0 41) ∧ 3 * (M 0 41) ≤ 2147483647 ∧ -2147483648 ≤ (3 * (M 0 41)) + x3 ∧ (3 * (M 0 41)) + x3 ≤ 2147483647 ∧ 0 ≤ ((3 * (M 0 41)) + x3) ∧ ((3 * (M 0 41)) + x3) < 360 ∧ cl n_isSame_0 [x1, M 29 ((3 * (M 0 41)) + x3)] M (fun z3 M3 => (z3 = 0 → -2147483648 ≤ x3 + 1 ∧ x3 + 1 ≤ 2147483647 ∧ rc n_tells_176 [x1, 0, x3 + 1] M3) ∧ (¬ (z3 = 0) → -2147483648 ≤ x3 + 1 ∧ x3 + 1 ≤ 2147483647 ∧ rc n_tells_176 [x1, 1, x3 + 1] M3))))
set_option maxRecDepth 10000 in
theorem s_tells_176 {l : Launch} {G : GT} {m : Int} {a : Int → Int} {d mc ms : Nat} {S : Sh} {Q : Int → Mem → Prop} {rc : MP} {cl : MC} {V0 V M : Mem} {x1 x2 x3 : Int} (hrc : RCok l G m a S V0 Q d mc ms rc) (hcl : CLok l G m a S d cl) (mr : MR m a S V M) (mf : MF m a V0 V) (hB : B_tells_176 rc cl Q d x1 x2 x3 M) : XJ l G bX12_tells (Qm m a S V0 Q) (d + 1) 176 [vr m, vi x1, vi x2, vi x3] [] S V mc ms := by
  unfold B_tells_176 at hB
  refine X_iload_n dX12_tells_176 rfl ?_
  refine X_aload_n dX12_tells_177 rfl ?_
  refine X_getfield (ci := 12) (k := 18) (v := vr (a 18)) dX12_tells_178 rfl (by decide) kf_RX12_41 (congrArg vr (MR.ar mr (k := 18) (by decide)).1) mr.1 ?_
  refine X_aload_n dX12_tells_181 rfl ?_
  refine X_getfield (ci := 12) (k := 41) (v := vi (M 0 41)) dX12_tells_182 rfl (by decide) kf_RX12_269 (congrArg vi (MR.in_ mr (k := 41) (by decide) rfl)) mr.1 ?_
  refine X_iaload dX12_tells_185 ((MR.ar mr (k := 18) (by decide)).2.1.trans (by decide)) hB.1 (lt_eq hB.2.1 (MR.ln mr (k := 18) (by decide) (by decide))) ?_
  refine X_top (v := vi (M 18 (M 0 41))) (congrArg vi (MR.el mr (k := 18) (by decide) rfl)) ?_
  refine X_icmp_ge dX12_tells_186 (tgt := 226) rfl (fun c1 => ?_) (fun c1 => ?_)
  · refine X_iload_n dX12_tells_226 rfl ?_
    exact X_ret (z := x2) dX12_tells_227 rfl (fun _ => (hB.2.2.1 c1).1) ⟨rfl, _, (hB.2.2.1 c1).2, mr, mf⟩
  · refine X_iload_n dX12_tells_189 rfl ?_
    refine X_if_ne dX12_tells_190 (tgt := 214) rfl (fun c2 => ?_) (fun c2 => ?_)
    · refine X_iconst dX12_tells_214 (by decide) ?_
      refine X_goto dX12_tells_215 (tgt := 219) rfl ?_
      refine X_istore_n dX12_tells_219 (by decide) rfl ?_
      refine X_iincN dX12_tells_220 rfl (by decide) rfl (e := x3 + 1) rfl ((hB.2.2.2 c1).1 c2).1 ((hB.2.2.2 c1).1 c2).2.1 ?_
      refine X_goto dX12_tells_223 (tgt := 176) rfl ?_
      exact hrc n_tells_176 [x1, 1, x3 + 1] _ _ ((hB.2.2.2 c1).1 c2).2.2 mr mf
    · refine X_aload_n dX12_tells_193 rfl ?_
      refine X_iload_n dX12_tells_194 rfl ?_
      refine X_aload_n dX12_tells_195 rfl ?_
      refine X_getfield (ci := 12) (k := 29) (v := vr (a 29)) dX12_tells_196 rfl (by decide) kf_RX12_74 (congrArg vr (MR.ar mr (k := 29) (by decide)).1) mr.1 ?_
      refine X_iconst dX12_tells_199 (by decide) ?_
      refine X_aload_n dX12_tells_200 rfl ?_
      refine X_getfield (ci := 12) (k := 41) (v := vi (M 0 41)) dX12_tells_201 rfl (by decide) kf_RX12_269 (congrArg vi (MR.in_ mr (k := 41) (by decide) rfl)) mr.1 ?_
      refine X_imulN dX12_tells_204 ((hB.2.2.2 c1).2 c2).1 ((hB.2.2.2 c1).2 c2).2.1 ?_
      refine X_iload_n dX12_tells_205 rfl ?_
      refine X_iaddN dX12_tells_206 ((hB.2.2.2 c1).2 c2).2.2.1 ((hB.2.2.2 c1).2 c2).2.2.2.1 ?_
      refine X_iaload dX12_tells_207 ((MR.ar mr (k := 29) (by decide)).2.1.trans (by decide)) ((hB.2.2.2 c1).2 c2).2.2.2.2.1 (lt_eq ((hB.2.2.2 c1).2 c2).2.2.2.2.2.1 (MR.ln mr (k := 29) (by decide) (by decide))) ?_
      refine X_top (v := vi (M 29 ((3 * (M 0 41)) + x3))) (congrArg vi (MR.el mr (k := 29) (by decide) rfl)) ?_
      refine X_invV (ci := 12) (as := [vi x1, vi (M 29 ((3 * (M 0 41)) + x3))]) (st := []) okX12_isSame dX12_tells_208 km_RX12_297 rfl rfl (Nat.le_of_ble_eq_true rfl) rfl rfl mr.1 (CT.of d 0 0 (hcl n_isSame_0 rfl [x1, M 29 ((3 * (M 0 41)) + x3)] _ _ _ ((hB.2.2.2 c1).2 c2).2.2.2.2.2.2 mr) (Nat.le_refl _) (Nat.zero_le _) (Nat.zero_le _) (fun z3 S3 V3 hq3 => ?_))
      obtain ⟨rfl, M3, hc4, mr3, hf3⟩ := hq3
      have mf3 := MF.trans mf hf3
      refine X_if_eq dX12_tells_211 (tgt := 218) rfl (fun c5 => ?_) (fun c5 => ?_)
      · refine X_iconst dX12_tells_218 (by decide) ?_
        refine X_istore_n dX12_tells_219 (by decide) rfl ?_
        refine X_iincN dX12_tells_220 rfl (by decide) rfl (e := x3 + 1) rfl (hc4.1 c5).1 (hc4.1 c5).2.1 ?_
        refine X_goto dX12_tells_223 (tgt := 176) rfl ?_
        exact hrc n_tells_176 [x1, 0, x3 + 1] _ _ (hc4.1 c5).2.2 mr3 mf3
      · refine X_iconst dX12_tells_214 (by decide) ?_
        refine X_goto dX12_tells_215 (tgt := 219) rfl ?_
        refine X_istore_n dX12_tells_219 (by decide) rfl ?_
        refine X_iincN dX12_tells_220 rfl (by decide) rfl (e := x3 + 1) rfl (hc4.2 c5).1 (hc4.2 c5).2.1 ?_
        refine X_goto dX12_tells_223 (tgt := 176) rfl ?_
        exact hrc n_tells_176 [x1, 1, x3 + 1] _ _ (hc4.2 c5).2.2 mr3 mf3
def B_enumOf_0 (rc : MP) (cl : MC) (Q : Int → Mem → Prop) (d : Nat) (x1 : Int) (M : Mem) : Prop := rc n_enumOf_2 [x1, 0] M
set_option maxRecDepth 10000 in
theorem s_enumOf_0 {l : Launch} {G : GT} {m : Int} {a : Int → Int} {d mc ms : Nat} {S : Sh} {Q : Int → Mem → Prop} {rc : MP} {cl : MC} {V0 V M : Mem} {x1 : Int} (hrc : RCok l G m a S V0 Q d mc ms rc) (hcl : CLok l G m a S d cl) (mr : MR m a S V M) (mf : MF m a V0 V) (hB : B_enumOf_0 rc cl Q d x1 M) : XJ l G bX12_enumOf (Qm m a S V0 Q) (d + 1) 0 [vr m, vi x1, vu] [] S V mc ms := by
  unfold B_enumOf_0 at hB
  refine X_iconst dX12_enumOf_0 (by decide) ?_
  refine X_istore_n dX12_enumOf_1 (by decide) rfl ?_
  exact hrc n_enumOf_2 [x1, 0] _ _ hB mr mf
def B_enumOf_2 (rc : MP) (cl : MC) (Q : Int → Mem → Prop) (d : Nat) (x1 x2 : Int) (M : Mem) : Prop := 0 ≤ (M 0 9) ∧ (M 0 9) < 10 ∧ ((M 10 (M 0 9)) ≤ x2 → Q (-1) M) ∧ (¬ ((M 10 (M 0 9)) ≤ x2) → -2147483648 ≤ 12 * (M 0 9) ∧ 12 * (M 0 9) ≤ 2147483647 ∧ -2147483648 ≤ (12 * (M 0 9)) + x2 ∧ (12 * (M 0 9)) + x2 ≤ 2147483647 ∧ 0 ≤ ((12 * (M 0 9)) + x2) ∧ ((12 * (M 0 9)) + x2) < 120 ∧ cl n_isSame_0 [x1, M 13 ((12 * (M 0 9)) + x2)] M (fun z2 M2 => (z2 = 0 → -2147483648 ≤ x2 + 1 ∧ x2 + 1 ≤ 2147483647 ∧ rc n_enumOf_2 [x1, x2 + 1] M2) ∧ (¬ (z2 = 0) → Q x2 M2)))
set_option maxRecDepth 10000 in
theorem s_enumOf_2 {l : Launch} {G : GT} {m : Int} {a : Int → Int} {d mc ms : Nat} {S : Sh} {Q : Int → Mem → Prop} {rc : MP} {cl : MC} {V0 V M : Mem} {x1 x2 : Int} (hrc : RCok l G m a S V0 Q d mc ms rc) (hcl : CLok l G m a S d cl) (mr : MR m a S V M) (mf : MF m a V0 V) (hB : B_enumOf_2 rc cl Q d x1 x2 M) : XJ l G bX12_enumOf (Qm m a S V0 Q) (d + 1) 2 [vr m, vi x1, vi x2] [] S V mc ms := by
  unfold B_enumOf_2 at hB
  refine X_iload_n dX12_enumOf_2 rfl ?_
  refine X_aload_n dX12_enumOf_3 rfl ?_
  refine X_getfield (ci := 12) (k := 10) (v := vr (a 10)) dX12_enumOf_4 rfl (by decide) kf_RX12_16 (congrArg vr (MR.ar mr (k := 10) (by decide)).1) mr.1 ?_
  refine X_aload_n dX12_enumOf_7 rfl ?_
  refine X_getfield (ci := 12) (k := 9) (v := vi (M 0 9)) dX12_enumOf_8 rfl (by decide) kf_RX12_263 (congrArg vi (MR.in_ mr (k := 9) (by decide) rfl)) mr.1 ?_
  refine X_iaload dX12_enumOf_11 ((MR.ar mr (k := 10) (by decide)).2.1.trans (by decide)) hB.1 (lt_eq hB.2.1 (MR.ln mr (k := 10) (by decide) (by decide))) ?_
  refine X_top (v := vi (M 10 (M 0 9))) (congrArg vi (MR.el mr (k := 10) (by decide) rfl)) ?_
  refine X_icmp_ge dX12_enumOf_12 (tgt := 45) rfl (fun c1 => ?_) (fun c1 => ?_)
  · refine X_iconst dX12_enumOf_45 (by decide) ?_
    exact X_ret (z := (-1)) dX12_enumOf_46 rfl (fun hv => vok_h hv) ⟨rfl, _, (hB.2.2.1 c1), mr, mf⟩
  · refine X_aload_n dX12_enumOf_15 rfl ?_
    refine X_iload_n dX12_enumOf_16 rfl ?_
    refine X_aload_n dX12_enumOf_17 rfl ?_
    refine X_getfield (ci := 12) (k := 13) (v := vr (a 13)) dX12_enumOf_18 rfl (by decide) kf_RX12_26 (congrArg vr (MR.ar mr (k := 13) (by decide)).1) mr.1 ?_
    refine X_bipush dX12_enumOf_21 (by decide) (by decide) ?_
    refine X_aload_n dX12_enumOf_23 rfl ?_
    refine X_getfield (ci := 12) (k := 9) (v := vi (M 0 9)) dX12_enumOf_24 rfl (by decide) kf_RX12_263 (congrArg vi (MR.in_ mr (k := 9) (by decide) rfl)) mr.1 ?_
    refine X_imulN dX12_enumOf_27 (hB.2.2.2 c1).1 (hB.2.2.2 c1).2.1 ?_
    refine X_iload_n dX12_enumOf_28 rfl ?_
    refine X_iaddN dX12_enumOf_29 (hB.2.2.2 c1).2.2.1 (hB.2.2.2 c1).2.2.2.1 ?_
    refine X_iaload dX12_enumOf_30 ((MR.ar mr (k := 13) (by decide)).2.1.trans (by decide)) (hB.2.2.2 c1).2.2.2.2.1 (lt_eq (hB.2.2.2 c1).2.2.2.2.2.1 (MR.ln mr (k := 13) (by decide) (by decide))) ?_
    refine X_top (v := vi (M 13 ((12 * (M 0 9)) + x2))) (congrArg vi (MR.el mr (k := 13) (by decide) rfl)) ?_
    refine X_invV (ci := 12) (as := [vi x1, vi (M 13 ((12 * (M 0 9)) + x2))]) (st := []) okX12_isSame dX12_enumOf_31 km_RX12_297 rfl rfl (Nat.le_of_ble_eq_true rfl) rfl rfl mr.1 (CT.of d 0 0 (hcl n_isSame_0 rfl [x1, M 13 ((12 * (M 0 9)) + x2)] _ _ _ (hB.2.2.2 c1).2.2.2.2.2.2 mr) (Nat.le_refl _) (Nat.zero_le _) (Nat.zero_le _) (fun z2 S2 V2 hq2 => ?_))
    obtain ⟨rfl, M2, hc3, mr2, hf2⟩ := hq2
    have mf2 := MF.trans mf hf2
    refine X_if_eq dX12_enumOf_34 (tgt := 39) rfl (fun c4 => ?_) (fun c4 => ?_)
    · refine X_iincN dX12_enumOf_39 rfl (by decide) rfl (e := x2 + 1) rfl (hc3.1 c4).1 (hc3.1 c4).2.1 ?_
      refine X_goto dX12_enumOf_42 (tgt := 2) rfl ?_
      exact hrc n_enumOf_2 [x1, x2 + 1] _ _ (hc3.1 c4).2.2 mr2 mf2
    · refine X_iload_n dX12_enumOf_37 rfl ?_
      exact X_ret (z := x2) dX12_enumOf_38 rfl (fun hv => vok_h hv) ⟨rfl, _, (hc3.2 c4), mr2, mf2⟩
def B_readBook_0 (rc : MP) (cl : MC) (Q : Int → Mem → Prop) (d : Nat) (M : Mem) : Prop := 0 ≤ (M 0 9) ∧ (M 0 9) < 10 ∧ cl n_next_0 [] (up (up (up (up (up M 0 46 0) 0 51 0) 0 5 0) 10 (M 0 9) 0) 11 (M 0 9) 0) (fun z1 M1 => rc n_readBook_39 [] M1)
set_option maxRecDepth 10000 in
theorem s_readBook_0 {l : Launch} {G : GT} {m : Int} {a : Int → Int} {d mc ms : Nat} {S : Sh} {Q : Int → Mem → Prop} {rc : MP} {cl : MC} {V0 V M : Mem} (hrc : RCok l G m a S V0 Q d mc ms rc) (hcl : CLok l G m a S d cl) (mr : MR m a S V M) (mf : MF m a V0 V) (hB : B_readBook_0 rc cl Q d  M) : XJ l G bX12_readBook (Qm m a S V0 Q) (d + 1) 0 [vr m, vu] [] S V mc ms := by
  unfold B_readBook_0 at hB
  refine X_aload_n dX12_readBook_0 rfl ?_
  refine X_iconst dX12_readBook_1 (by decide) ?_
  refine X_putfield (ci := 12) (k := 46) (z := 0) dX12_readBook_2 rfl (by decide) kf_RX12_275 (Or.inl rfl) (Or.inl rfl) rfl (fun hv => hv) mr.1 ?_
  refine X_aload_n dX12_readBook_5 rfl ?_
  refine X_iconst dX12_readBook_6 (by decide) ?_
  refine X_putfield (ci := 12) (k := 51) (z := 0) dX12_readBook_7 rfl (by decide) kf_RX12_301 (Or.inl rfl) (Or.inl rfl) rfl (fun hv => hv) (MR.putI mr (k := 46) (z := 0) (by decide)).1 ?_
  refine X_aload_n dX12_readBook_10 rfl ?_
  refine X_iconst dX12_readBook_11 (by decide) ?_
  refine X_putfield (ci := 12) (k := 5) (z := 0) dX12_readBook_12 rfl (by decide) kf_RX12_195 (Or.inl rfl) (Or.inl rfl) rfl (fun hv => hv) (MR.putI (MR.putI mr (k := 46) (z := 0) (by decide)) (k := 51) (z := 0) (by decide)).1 ?_
  refine X_aload_n dX12_readBook_15 rfl ?_
  refine X_getfield (ci := 12) (k := 10) (v := vr (a 10)) dX12_readBook_16 rfl (by decide) kf_RX12_16 (congrArg vr (MR.ar (MR.putI (MR.putI (MR.putI mr (k := 46) (z := 0) (by decide)) (k := 51) (z := 0) (by decide)) (k := 5) (z := 0) (by decide)) (k := 10) (by decide)).1) (MR.putI (MR.putI (MR.putI mr (k := 46) (z := 0) (by decide)) (k := 51) (z := 0) (by decide)) (k := 5) (z := 0) (by decide)).1 ?_
  refine X_aload_n dX12_readBook_19 rfl ?_
  refine X_getfield (ci := 12) (k := 9) (v := vi (M 0 9)) dX12_readBook_20 rfl (by decide) kf_RX12_263 (congrArg vi (MR.in_ (MR.putI (MR.putI (MR.putI mr (k := 46) (z := 0) (by decide)) (k := 51) (z := 0) (by decide)) (k := 5) (z := 0) (by decide)) (k := 9) (by decide) ((up_ne (Or.inr (by decide))).trans ((up_ne (Or.inr (by decide))).trans (up_ne (Or.inr (by decide))))))) (MR.putI (MR.putI (MR.putI mr (k := 46) (z := 0) (by decide)) (k := 51) (z := 0) (by decide)) (k := 5) (z := 0) (by decide)).1 ?_
  refine X_iconst dX12_readBook_23 (by decide) ?_
  refine X_iastore dX12_readBook_24 ((MR.ar (MR.putI (MR.putI (MR.putI mr (k := 46) (z := 0) (by decide)) (k := 51) (z := 0) (by decide)) (k := 5) (z := 0) (by decide)) (k := 10) (by decide)).2.1.trans (by decide)) hB.1 (lt_eq hB.2.1 (MR.ln (MR.putI (MR.putI (MR.putI mr (k := 46) (z := 0) (by decide)) (k := 51) (z := 0) (by decide)) (k := 5) (z := 0) (by decide)) (k := 10) (by decide) (by decide))) ?_
  refine X_aload_n dX12_readBook_25 rfl ?_
  refine X_getfield (ci := 12) (k := 11) (v := vr (a 11)) dX12_readBook_26 rfl (by decide) kf_RX12_20 (congrArg vr (MR.ar (MR.putA (MR.putI (MR.putI (MR.putI mr (k := 46) (z := 0) (by decide)) (k := 51) (z := 0) (by decide)) (k := 5) (z := 0) (by decide)) (k := 10) (j := M 0 9) (z := 0) (by decide)) (k := 11) (by decide)).1) (MR.putA (MR.putI (MR.putI (MR.putI mr (k := 46) (z := 0) (by decide)) (k := 51) (z := 0) (by decide)) (k := 5) (z := 0) (by decide)) (k := 10) (j := M 0 9) (z := 0) (by decide)).1 ?_
  refine X_aload_n dX12_readBook_29 rfl ?_
  refine X_getfield (ci := 12) (k := 9) (v := vi (M 0 9)) dX12_readBook_30 rfl (by decide) kf_RX12_263 (congrArg vi (MR.in_ (MR.putA (MR.putI (MR.putI (MR.putI mr (k := 46) (z := 0) (by decide)) (k := 51) (z := 0) (by decide)) (k := 5) (z := 0) (by decide)) (k := 10) (j := M 0 9) (z := 0) (by decide)) (k := 9) (by decide) ((up_ne (Or.inl (by decide))).trans ((up_ne (Or.inr (by decide))).trans ((up_ne (Or.inr (by decide))).trans (up_ne (Or.inr (by decide)))))))) (MR.putA (MR.putI (MR.putI (MR.putI mr (k := 46) (z := 0) (by decide)) (k := 51) (z := 0) (by decide)) (k := 5) (z := 0) (by decide)) (k := 10) (j := M 0 9) (z := 0) (by decide)).1 ?_
  refine X_iconst dX12_readBook_33 (by decide) ?_
  refine X_iastore dX12_readBook_34 ((MR.ar (MR.putA (MR.putI (MR.putI (MR.putI mr (k := 46) (z := 0) (by decide)) (k := 51) (z := 0) (by decide)) (k := 5) (z := 0) (by decide)) (k := 10) (j := M 0 9) (z := 0) (by decide)) (k := 11) (by decide)).2.1.trans (by decide)) hB.1 (lt_eq hB.2.1 (MR.ln (MR.putA (MR.putI (MR.putI (MR.putI mr (k := 46) (z := 0) (by decide)) (k := 51) (z := 0) (by decide)) (k := 5) (z := 0) (by decide)) (k := 10) (j := M 0 9) (z := 0) (by decide)) (k := 11) (by decide) (by decide))) ?_
  refine X_aload_n dX12_readBook_35 rfl ?_
  refine X_invV (ci := 12) (as := []) (st := []) okX12_next dX12_readBook_36 km_RX12_285 rfl rfl (Nat.le_of_ble_eq_true rfl) rfl rfl (MR.putA (MR.putA (MR.putI (MR.putI (MR.putI mr (k := 46) (z := 0) (by decide)) (k := 51) (z := 0) (by decide)) (k := 5) (z := 0) (by decide)) (k := 10) (j := M 0 9) (z := 0) (by decide)) (k := 11) (j := M 0 9) (z := 0) (by decide)).1 (CT.of d 0 0 (hcl n_next_0 rfl [] _ _ _ hB.2.2 (MR.putA (MR.putA (MR.putI (MR.putI (MR.putI mr (k := 46) (z := 0) (by decide)) (k := 51) (z := 0) (by decide)) (k := 5) (z := 0) (by decide)) (k := 10) (j := M 0 9) (z := 0) (by decide)) (k := 11) (j := M 0 9) (z := 0) (by decide))) (Nat.le_refl _) (Nat.zero_le _) (Nat.zero_le _) (fun z1 S1 V1 hq1 => ?_))
  obtain ⟨rfl, M1, hc2, mr1, hf1⟩ := hq1
  have mf1 := MF.trans (MF.putA (MF.putA (MF.putI (MF.putI (MF.putI mf (k := 46) (z := 0)) (k := 51) (z := 0)) (k := 5) (z := 0)) (k := 10) (j := M 0 9) (z := 0) (by decide)) (k := 11) (j := M 0 9) (z := 0) (by decide)) hf1
  exact hrc n_readBook_39 [] _ _ hc2 mr1 mf1
def B_readBook_39 (rc : MP) (cl : MC) (Q : Int → Mem → Prop) (d : Nat) (M : Mem) : Prop := cl n_readEnum_0 [] M (fun z1 M1 => ((M1 0 46) ≠ 0 → rc n_readBook_59 [0] M1) ∧ (¬ ((M1 0 46) ≠ 0) → ((M1 0 3) ≠ 0 → rc n_readBook_39 [] M1) ∧ (¬ ((M1 0 3) ≠ 0) → rc n_readBook_59 [0] M1)))
set_option maxRecDepth 10000 in
theorem s_readBook_39 {l : Launch} {G : GT} {m : Int} {a : Int → Int} {d mc ms : Nat} {S : Sh} {Q : Int → Mem → Prop} {rc : MP} {cl : MC} {V0 V M : Mem} (hrc : RCok l G m a S V0 Q d mc ms rc) (hcl : CLok l G m a S d cl) (mr : MR m a S V M) (mf : MF m a V0 V) (hB : B_readBook_39 rc cl Q d  M) : XJ l G bX12_readBook (Qm m a S V0 Q) (d + 1) 39 [vr m, vu] [] S V mc ms := by
  unfold B_readBook_39 at hB
  refine X_aload_n dX12_readBook_39 rfl ?_
  refine X_invV (ci := 12) (as := []) (st := []) okX12_readEnum dX12_readBook_40 km_RX12_304 rfl rfl (Nat.le_of_ble_eq_true rfl) rfl rfl mr.1 (CT.of d 0 0 (hcl n_readEnum_0 rfl [] _ _ _ hB mr) (Nat.le_refl _) (Nat.zero_le _) (Nat.zero_le _) (fun z1 S1 V1 hq1 => ?_))
  obtain ⟨rfl, M1, hc2, mr1, hf1⟩ := hq1
  have mf1 := MF.trans mf hf1
  refine X_aload_n dX12_readBook_43 rfl ?_
  refine X_getfield (ci := 12) (k := 46) (v := vi (M1 0 46)) dX12_readBook_44 rfl (by decide) kf_RX12_275 (congrArg vi (MR.in_ mr1 (k := 46) (by decide) rfl)) mr1.1 ?_
  refine X_if_ne dX12_readBook_47 (tgt := 57) rfl (fun c3 => ?_) (fun c3 => ?_)
  · refine X_iconst dX12_readBook_57 (by decide) ?_
    refine X_istore_n dX12_readBook_58 (by decide) rfl ?_
    exact hrc n_readBook_59 [0] _ _ (hc2.1 c3) mr1 mf1
  · refine X_aload_n dX12_readBook_50 rfl ?_
    refine X_getfield (ci := 12) (k := 3) (v := vi (M1 0 3)) dX12_readBook_51 rfl (by decide) kf_RX12_205 (congrArg vi (MR.in_ mr1 (k := 3) (by decide) rfl)) mr1.1 ?_
    refine X_if_ne dX12_readBook_54 (tgt := 39) rfl (fun c4 => ?_) (fun c4 => ?_)
    · exact hrc n_readBook_39 [] _ _ ((hc2.2 c3).1 c4) mr1 mf1
    · refine X_iconst dX12_readBook_57 (by decide) ?_
      refine X_istore_n dX12_readBook_58 (by decide) rfl ?_
      exact hrc n_readBook_59 [0] _ _ ((hc2.2 c3).2 c4) mr1 mf1
def B_readBook_59 (rc : MP) (cl : MC) (Q : Int → Mem → Prop) (d : Nat) (x1 : Int) (M : Mem) : Prop := ((M 0 51) ≤ x1 → Q 0 M) ∧ (¬ ((M 0 51) ≤ x1) → ((M 0 46) ≠ 0 → Q 0 M) ∧ (¬ ((M 0 46) ≠ 0) → cl n_settle_0 [x1] M (fun z3 M3 => -2147483648 ≤ x1 + 1 ∧ x1 + 1 ≤ 2147483647 ∧ rc n_readBook_59 [x1 + 1] M3)))
set_option maxRecDepth 10000 in
theorem s_readBook_59 {l : Launch} {G : GT} {m : Int} {a : Int → Int} {d mc ms : Nat} {S : Sh} {Q : Int → Mem → Prop} {rc : MP} {cl : MC} {V0 V M : Mem} {x1 : Int} (hrc : RCok l G m a S V0 Q d mc ms rc) (hcl : CLok l G m a S d cl) (mr : MR m a S V M) (mf : MF m a V0 V) (hB : B_readBook_59 rc cl Q d x1 M) : XJ l G bX12_readBook (Qm m a S V0 Q) (d + 1) 59 [vr m, vi x1] [] S V mc ms := by
  unfold B_readBook_59 at hB
  refine X_iload_n dX12_readBook_59 rfl ?_
  refine X_aload_n dX12_readBook_60 rfl ?_
  refine X_getfield (ci := 12) (k := 51) (v := vi (M 0 51)) dX12_readBook_61 rfl (by decide) kf_RX12_301 (congrArg vi (MR.in_ mr (k := 51) (by decide) rfl)) mr.1 ?_
  refine X_icmp_ge dX12_readBook_64 (tgt := 85) rfl (fun c1 => ?_) (fun c1 => ?_)
  · exact X_ret (z := 0) dX12_readBook_85 rfl (fun _ => trivial) ⟨rfl, _, (hB.1 c1), mr, mf⟩
  · refine X_aload_n dX12_readBook_67 rfl ?_
    refine X_getfield (ci := 12) (k := 46) (v := vi (M 0 46)) dX12_readBook_68 rfl (by decide) kf_RX12_275 (congrArg vi (MR.in_ mr (k := 46) (by decide) rfl)) mr.1 ?_
    refine X_if_ne dX12_readBook_71 (tgt := 85) rfl (fun c2 => ?_) (fun c2 => ?_)
    · exact X_ret (z := 0) dX12_readBook_85 rfl (fun _ => trivial) ⟨rfl, _, ((hB.2 c1).1 c2), mr, mf⟩
    · refine X_aload_n dX12_readBook_74 rfl ?_
      refine X_iload_n dX12_readBook_75 rfl ?_
      refine X_invV (ci := 12) (as := [vi x1]) (st := []) okX12_settle dX12_readBook_76 km_RX12_307 rfl rfl (Nat.le_of_ble_eq_true rfl) rfl rfl mr.1 (CT.of d 0 0 (hcl n_settle_0 rfl [x1] _ _ _ ((hB.2 c1).2 c2) mr) (Nat.le_refl _) (Nat.zero_le _) (Nat.zero_le _) (fun z3 S3 V3 hq3 => ?_))
      obtain ⟨rfl, M3, hc4, mr3, hf3⟩ := hq3
      have mf3 := MF.trans mf hf3
      refine X_iincN dX12_readBook_79 rfl (by decide) rfl (e := x1 + 1) rfl hc4.1 hc4.2.1 ?_
      refine X_goto dX12_readBook_82 (tgt := 59) rfl ?_
      exact hrc n_readBook_59 [x1 + 1] _ _ hc4.2.2 mr3 mf3
def B_readEnum_0 (rc : MP) (cl : MC) (Q : Int → Mem → Prop) (d : Nat) (M : Mem) : Prop := cl n_isWord_0 [4] M (fun z1 M1 => (z1 ≠ 0 → 0 ≤ (M1 0 9) ∧ (M1 0 9) < 10 ∧ ((M1 10 (M1 0 9)) ≠ 12 → cl n_next_0 [] M1 (fun z5 M5 => -2147483648 ≤ 12 * (M5 0 9) ∧ 12 * (M5 0 9) ≤ 2147483647 ∧ 0 ≤ (M5 0 9) ∧ (M5 0 9) < 10 ∧ -2147483648 ≤ (12 * (M5 0 9)) + (M5 10 (M5 0 9)) ∧ (12 * (M5 0 9)) + (M5 10 (M5 0 9)) ≤ 2147483647 ∧ cl n_isName_0 [] (up M5 0 41 ((12 * (M5 0 9)) + (M5 10 (M5 0 9)))) (fun z7 M7 => (z7 = 0 → cl n_newName_0 [0] M7 (fun z10 M10 => 0 ≤ ((12 * (M5 0 9)) + (M5 10 (M5 0 9))) ∧ ((12 * (M5 0 9)) + (M5 10 (M5 0 9))) < 120 ∧ ((M10 0 46) ≤ 0 → 0 ≤ (M10 0 9) ∧ (M10 0 9) < 10 ∧ -2147483648 ≤ (M10 10 (M10 0 9)) + 1 ∧ (M10 10 (M10 0 9)) + 1 ≤ 2147483647 ∧ 0 ≤ (M10 0 41) ∧ (M10 0 41) < 120 ∧ rc n_readEnum_172 [0] (up (up (up (up (up (up (up M10 13 ((12 * (M5 0 9)) + (M5 10 (M5 0 9))) z10) 10 (M10 0 9) ((M10 10 (M10 0 9)) + 1)) 14 (M10 0 41) 0) 15 (M10 0 41) 0) 16 (M10 0 41) 0) 17 (M10 0 41) 0) 18 (M10 0 41) 0)) ∧ (¬ ((M10 0 46) ≤ 0) → Q 0 (up M10 13 ((12 * (M5 0 9)) + (M5 10 (M5 0 9))) z10)))) ∧ (¬ (z7 = 0) → cl n_nameHere_0 [] M7 (fun z13 M13 => cl n_enumOf_0 [z13] M13 (fun z15 M15 => (z15 = (-1) → cl n_newName_0 [0] M15 (fun z18 M18 => 0 ≤ ((12 * (M5 0 9)) + (M5 10 (M5 0 9))) ∧ ((12 * (M5 0 9)) + (M5 10 (M5 0 9))) < 120 ∧ ((M18 0 46) ≤ 0 → 0 ≤ (M18 0 9) ∧ (M18 0 9) < 10 ∧ -2147483648 ≤ (M18 10 (M18 0 9)) + 1 ∧ (M18 10 (M18 0 9)) + 1 ≤ 2147483647 ∧ 0 ≤ (M18 0 41) ∧ (M18 0 41) < 120 ∧ rc n_readEnum_172 [0] (up (up (up (up (up (up (up M18 13 ((12 * (M5 0 9)) + (M5 10 (M5 0 9))) z18) 10 (M18 0 9) ((M18 10 (M18 0 9)) + 1)) 14 (M18 0 41) 0) 15 (M18 0 41) 0) 16 (M18 0 41) 0) 17 (M18 0 41) 0) 18 (M18 0 41) 0)) ∧ (¬ ((M18 0 46) ≤ 0) → Q 0 (up M18 13 ((12 * (M5 0 9)) + (M5 10 (M5 0 9))) z18)))) ∧ (¬ (z15 = (-1)) → cl n_newName_0 [1] M15 (fun z21 M21 => 0 ≤ ((12 * (M5 0 9)) + (M5 10 (M5 0 9))) ∧ ((12 * (M5 0 9)) + (M5 10 (M5 0 9))) < 120 ∧ ((M21 0 46) ≤ 0 → 0 ≤ (M21 0 9) ∧ (M21 0 9) < 10 ∧ -2147483648 ≤ (M21 10 (M21 0 9)) + 1 ∧ (M21 10 (M21 0 9)) + 1 ≤ 2147483647 ∧ 0 ≤ (M21 0 41) ∧ (M21 0 41) < 120 ∧ rc n_readEnum_172 [0] (up (up (up (up (up (up (up M21 13 ((12 * (M5 0 9)) + (M5 10 (M5 0 9))) z21) 10 (M21 0 9) ((M21 10 (M21 0 9)) + 1)) 14 (M21 0 41) 0) 15 (M21 0 41) 0) 16 (M21 0 41) 0) 17 (M21 0 41) 0) 18 (M21 0 41) 0)) ∧ (¬ ((M21 0 46) ≤ 0) → Q 0 (up M21 13 ((12 * (M5 0 9)) + (M5 10 (M5 0 9))) z21)))))))))) ∧ (¬ ((M1 10 (M1 0 9)) ≠ 12) → cl n_fault_0 [5] M1 (fun z24 M24 => Q 0 M24))) ∧ (¬ (z1 ≠ 0) → cl n_fault_0 [2] M1 (fun z26 M26 => Q 0 M26)))
set_option maxRecDepth 10000 in
theorem s_readEnum_0 {l : Launch} {G : GT} {m : Int} {a : Int → Int} {d mc ms : Nat} {S : Sh} {Q : Int → Mem → Prop} {rc : MP} {cl : MC} {V0 V M : Mem} (hrc : RCok l G m a S V0 Q d mc ms rc) (hcl : CLok l G m a S d cl) (mr : MR m a S V M) (mf : MF m a V0 V) (hB : B_readEnum_0 rc cl Q d  M) : XJ l G bX12_readEnum (Qm m a S V0 Q) (d + 1) 0 [vr m, vu] [] S V mc ms := by
  unfold B_readEnum_0 at hB
  refine X_aload_n dX12_readEnum_0 rfl ?_
  refine X_ldcS (i := 4) dX12_readEnum_1 (by decide) ⟨rfl, rfl⟩ ?_
  refine X_invV (ci := 12) (as := [vr ((G.2.2.2.1 4 : Int) + 1)]) (st := []) okX12_isWord dX12_readEnum_3 km_RX12_235 rfl rfl (Nat.le_of_ble_eq_true rfl) rfl rfl mr.1 (CT.of d 0 0 (hcl n_isWord_0 rfl [4] _ _ _ hB mr) (Nat.le_refl _) (Nat.zero_le _) (Nat.zero_le _) (fun z1 S1 V1 hq1 => ?_))
  obtain ⟨rfl, M1, hc2, mr1, hf1⟩ := hq1
  have mf1 := MF.trans mf hf1
  refine X_if_ne dX12_readEnum_6 (tgt := 16) rfl (fun c3 => ?_) (fun c3 => ?_)
  · refine X_aload_n dX12_readEnum_16 rfl ?_
    refine X_getfield (ci := 12) (k := 10) (v := vr (a 10)) dX12_readEnum_17 rfl (by decide) kf_RX12_16 (congrArg vr (MR.ar mr1 (k := 10) (by decide)).1) mr1.1 ?_
    refine X_aload_n dX12_readEnum_20 rfl ?_
    refine X_getfield (ci := 12) (k := 9) (v := vi (M1 0 9)) dX12_readEnum_21 rfl (by decide) kf_RX12_263 (congrArg vi (MR.in_ mr1 (k := 9) (by decide) rfl)) mr1.1 ?_
    refine X_iaload dX12_readEnum_24 ((MR.ar mr1 (k := 10) (by decide)).2.1.trans (by decide)) (hc2.1 c3).1 (lt_eq (hc2.1 c3).2.1 (MR.ln mr1 (k := 10) (by decide) (by decide))) ?_
    refine X_top (v := vi (M1 10 (M1 0 9))) (congrArg vi (MR.el mr1 (k := 10) (by decide) rfl)) ?_
    refine X_bipush dX12_readEnum_25 (by decide) (by decide) ?_
    refine X_icmp_ne dX12_readEnum_27 (tgt := 37) rfl (fun c4 => ?_) (fun c4 => ?_)
    · refine X_aload_n dX12_readEnum_37 rfl ?_
      refine X_invV (ci := 12) (as := []) (st := []) okX12_next dX12_readEnum_38 km_RX12_285 rfl rfl (Nat.le_of_ble_eq_true rfl) rfl rfl mr1.1 (CT.of d 0 0 (hcl n_next_0 rfl [] _ _ _ ((hc2.1 c3).2.2.1 c4) mr1) (Nat.le_refl _) (Nat.zero_le _) (Nat.zero_le _) (fun z5 S5 V5 hq5 => ?_))
      obtain ⟨rfl, M5, hc6, mr5, hf5⟩ := hq5
      have mf5 := MF.trans mf1 hf5
      refine X_aload_n dX12_readEnum_41 rfl ?_
      refine X_bipush dX12_readEnum_42 (by decide) (by decide) ?_
      refine X_aload_n dX12_readEnum_44 rfl ?_
      refine X_getfield (ci := 12) (k := 9) (v := vi (M5 0 9)) dX12_readEnum_45 rfl (by decide) kf_RX12_263 (congrArg vi (MR.in_ mr5 (k := 9) (by decide) rfl)) mr5.1 ?_
      refine X_imulN dX12_readEnum_48 hc6.1 hc6.2.1 ?_
      refine X_aload_n dX12_readEnum_49 rfl ?_
      refine X_getfield (ci := 12) (k := 10) (v := vr (a 10)) dX12_readEnum_50 rfl (by decide) kf_RX12_16 (congrArg vr (MR.ar mr5 (k := 10) (by decide)).1) mr5.1 ?_
      refine X_aload_n dX12_readEnum_53 rfl ?_
      refine X_getfield (ci := 12) (k := 9) (v := vi (M5 0 9)) dX12_readEnum_54 rfl (by decide) kf_RX12_263 (congrArg vi (MR.in_ mr5 (k := 9) (by decide) rfl)) mr5.1 ?_
      refine X_iaload dX12_readEnum_57 ((MR.ar mr5 (k := 10) (by decide)).2.1.trans (by decide)) hc6.2.2.1 (lt_eq hc6.2.2.2.1 (MR.ln mr5 (k := 10) (by decide) (by decide))) ?_
      refine X_top (v := vi (M5 10 (M5 0 9))) (congrArg vi (MR.el mr5 (k := 10) (by decide) rfl)) ?_
      refine X_iaddN dX12_readEnum_58 hc6.2.2.2.2.1 hc6.2.2.2.2.2.1 ?_
      refine X_putfield (ci := 12) (k := 41) (z := ((12 * (M5 0 9)) + (M5 10 (M5 0 9)))) dX12_readEnum_59 rfl (by decide) kf_RX12_269 (Or.inl rfl) (Or.inl rfl) rfl (fun hv => hv) mr5.1 ?_
      refine X_aload_n dX12_readEnum_62 rfl ?_
      refine X_getfield (ci := 12) (k := 13) (v := vr (a 13)) dX12_readEnum_63 rfl (by decide) kf_RX12_26 (congrArg vr (MR.ar (MR.putI mr5 (k := 41) (z := (12 * (M5 0 9)) + (M5 10 (M5 0 9))) (by decide)) (k := 13) (by decide)).1) (MR.putI mr5 (k := 41) (z := (12 * (M5 0 9)) + (M5 10 (M5 0 9))) (by decide)).1 ?_
      refine X_aload_n dX12_readEnum_66 rfl ?_
      refine X_getfield (ci := 12) (k := 41) (v := vi ((12 * (M5 0 9)) + (M5 10 (M5 0 9)))) dX12_readEnum_67 rfl (by decide) kf_RX12_269 (congrArg vi (MR.in_ (MR.putI mr5 (k := 41) (z := (12 * (M5 0 9)) + (M5 10 (M5 0 9))) (by decide)) (k := 41) (by decide) (up_eq))) (MR.putI mr5 (k := 41) (z := (12 * (M5 0 9)) + (M5 10 (M5 0 9))) (by decide)).1 ?_
      refine X_aload_n dX12_readEnum_70 rfl ?_
      refine X_aload_n dX12_readEnum_71 rfl ?_
      refine X_invV (ci := 12) (as := []) (st := [vr m, vi ((12 * (M5 0 9)) + (M5 10 (M5 0 9))), vr (a 13)]) okX12_isName dX12_readEnum_72 km_RX12_291 rfl rfl (Nat.le_of_ble_eq_true rfl) rfl rfl (MR.putI mr5 (k := 41) (z := (12 * (M5 0 9)) + (M5 10 (M5 0 9))) (by decide)).1 (CT.of d 0 0 (hcl n_isName_0 rfl [] _ _ _ hc6.2.2.2.2.2.2 (MR.putI mr5 (k := 41) (z := (12 * (M5 0 9)) + (M5 10 (M5 0 9))) (by decide))) (Nat.le_refl _) (Nat.zero_le _) (Nat.zero_le _) (fun z7 S7 V7 hq7 => ?_))
      obtain ⟨rfl, M7, hc8, mr7, hf7⟩ := hq7
      have mf7 := MF.trans (MF.putI mf5 (k := 41) (z := (12 * (M5 0 9)) + (M5 10 (M5 0 9)))) hf7
      refine X_if_eq dX12_readEnum_75 (tgt := 94) rfl (fun c9 => ?_) (fun c9 => ?_)
      · refine X_iconst dX12_readEnum_94 (by decide) ?_
        refine X_invV (ci := 12) (as := [vi 0]) (st := [vi ((12 * (M5 0 9)) + (M5 10 (M5 0 9))), vr (a 13)]) okX12_newName dX12_readEnum_95 km_RX12_314 rfl rfl (Nat.le_of_ble_eq_true rfl) rfl rfl mr7.1 (CT.of d 0 0 (hcl n_newName_0 rfl [0] _ _ _ (hc8.1 c9) mr7) (Nat.le_refl _) (Nat.zero_le _) (Nat.zero_le _) (fun z10 S10 V10 hq10 => ?_))
        obtain ⟨rfl, M10, hc11, mr10, hf10⟩ := hq10
        have mf10 := MF.trans mf7 hf10
        refine X_iastore dX12_readEnum_98 ((MR.ar mr10 (k := 13) (by decide)).2.1.trans (by decide)) hc11.1 (lt_eq hc11.2.1 (MR.ln mr10 (k := 13) (by decide) (by decide))) ?_
        refine X_aload_n dX12_readEnum_99 rfl ?_
        refine X_getfield (ci := 12) (k := 46) (v := vi (M10 0 46)) dX12_readEnum_100 rfl (by decide) kf_RX12_275 (congrArg vi (MR.in_ (MR.putA mr10 (k := 13) (j := (12 * (M5 0 9)) + (M5 10 (M5 0 9))) (z := z10) (by decide)) (k := 46) (by decide) (up_ne (Or.inl (by decide))))) (MR.putA mr10 (k := 13) (j := (12 * (M5 0 9)) + (M5 10 (M5 0 9))) (z := z10) (by decide)).1 ?_
        refine X_if_le dX12_readEnum_103 (tgt := 107) rfl (fun c12 => ?_) (fun c12 => ?_)
        · refine X_aload_n dX12_readEnum_107 rfl ?_
          refine X_getfield (ci := 12) (k := 10) (v := vr (a 10)) dX12_readEnum_108 rfl (by decide) kf_RX12_16 (congrArg vr (MR.ar (MR.putA mr10 (k := 13) (j := (12 * (M5 0 9)) + (M5 10 (M5 0 9))) (z := z10) (by decide)) (k := 10) (by decide)).1) (MR.putA mr10 (k := 13) (j := (12 * (M5 0 9)) + (M5 10 (M5 0 9))) (z := z10) (by decide)).1 ?_
          refine X_aload_n dX12_readEnum_111 rfl ?_
          refine X_getfield (ci := 12) (k := 9) (v := vi (M10 0 9)) dX12_readEnum_112 rfl (by decide) kf_RX12_263 (congrArg vi (MR.in_ (MR.putA mr10 (k := 13) (j := (12 * (M5 0 9)) + (M5 10 (M5 0 9))) (z := z10) (by decide)) (k := 9) (by decide) (up_ne (Or.inl (by decide))))) (MR.putA mr10 (k := 13) (j := (12 * (M5 0 9)) + (M5 10 (M5 0 9))) (z := z10) (by decide)).1 ?_
          refine X_dup2 dX12_readEnum_115 rfl (rv_cat _) ?_
          refine X_iaload dX12_readEnum_116 ((MR.ar (MR.putA mr10 (k := 13) (j := (12 * (M5 0 9)) + (M5 10 (M5 0 9))) (z := z10) (by decide)) (k := 10) (by decide)).2.1.trans (by decide)) (hc11.2.2.1 c12).1 (lt_eq (hc11.2.2.1 c12).2.1 (MR.ln (MR.putA mr10 (k := 13) (j := (12 * (M5 0 9)) + (M5 10 (M5 0 9))) (z := z10) (by decide)) (k := 10) (by decide) (by decide))) ?_
          refine X_top (v := vi (M10 10 (M10 0 9))) (congrArg vi (MR.el (MR.putA mr10 (k := 13) (j := (12 * (M5 0 9)) + (M5 10 (M5 0 9))) (z := z10) (by decide)) (k := 10) (by decide) (up_ne (Or.inl (by decide))))) ?_
          refine X_iconst dX12_readEnum_117 (by decide) ?_
          refine X_iaddN dX12_readEnum_118 (hc11.2.2.1 c12).2.2.1 (hc11.2.2.1 c12).2.2.2.1 ?_
          refine X_iastore dX12_readEnum_119 ((MR.ar (MR.putA mr10 (k := 13) (j := (12 * (M5 0 9)) + (M5 10 (M5 0 9))) (z := z10) (by decide)) (k := 10) (by decide)).2.1.trans (by decide)) (hc11.2.2.1 c12).1 (lt_eq (hc11.2.2.1 c12).2.1 (MR.ln (MR.putA mr10 (k := 13) (j := (12 * (M5 0 9)) + (M5 10 (M5 0 9))) (z := z10) (by decide)) (k := 10) (by decide) (by decide))) ?_
          refine X_aload_n dX12_readEnum_120 rfl ?_
          refine X_getfield (ci := 12) (k := 14) (v := vr (a 14)) dX12_readEnum_121 rfl (by decide) kf_RX12_29 (congrArg vr (MR.ar (MR.putA (MR.putA mr10 (k := 13) (j := (12 * (M5 0 9)) + (M5 10 (M5 0 9))) (z := z10) (by decide)) (k := 10) (j := M10 0 9) (z := (M10 10 (M10 0 9)) + 1) (by decide)) (k := 14) (by decide)).1) (MR.putA (MR.putA mr10 (k := 13) (j := (12 * (M5 0 9)) + (M5 10 (M5 0 9))) (z := z10) (by decide)) (k := 10) (j := M10 0 9) (z := (M10 10 (M10 0 9)) + 1) (by decide)).1 ?_
          refine X_aload_n dX12_readEnum_124 rfl ?_
          refine X_getfield (ci := 12) (k := 41) (v := vi (M10 0 41)) dX12_readEnum_125 rfl (by decide) kf_RX12_269 (congrArg vi (MR.in_ (MR.putA (MR.putA mr10 (k := 13) (j := (12 * (M5 0 9)) + (M5 10 (M5 0 9))) (z := z10) (by decide)) (k := 10) (j := M10 0 9) (z := (M10 10 (M10 0 9)) + 1) (by decide)) (k := 41) (by decide) ((up_ne (Or.inl (by decide))).trans (up_ne (Or.inl (by decide)))))) (MR.putA (MR.putA mr10 (k := 13) (j := (12 * (M5 0 9)) + (M5 10 (M5 0 9))) (z := z10) (by decide)) (k := 10) (j := M10 0 9) (z := (M10 10 (M10 0 9)) + 1) (by decide)).1 ?_
          refine X_iconst dX12_readEnum_128 (by decide) ?_
          refine X_iastore dX12_readEnum_129 ((MR.ar (MR.putA (MR.putA mr10 (k := 13) (j := (12 * (M5 0 9)) + (M5 10 (M5 0 9))) (z := z10) (by decide)) (k := 10) (j := M10 0 9) (z := (M10 10 (M10 0 9)) + 1) (by decide)) (k := 14) (by decide)).2.1.trans (by decide)) (hc11.2.2.1 c12).2.2.2.2.1 (lt_eq (hc11.2.2.1 c12).2.2.2.2.2.1 (MR.ln (MR.putA (MR.putA mr10 (k := 13) (j := (12 * (M5 0 9)) + (M5 10 (M5 0 9))) (z := z10) (by decide)) (k := 10) (j := M10 0 9) (z := (M10 10 (M10 0 9)) + 1) (by decide)) (k := 14) (by decide) (by decide))) ?_
          refine X_aload_n dX12_readEnum_130 rfl ?_
          refine X_getfield (ci := 12) (k := 15) (v := vr (a 15)) dX12_readEnum_131 rfl (by decide) kf_RX12_32 (congrArg vr (MR.ar (MR.putA (MR.putA (MR.putA mr10 (k := 13) (j := (12 * (M5 0 9)) + (M5 10 (M5 0 9))) (z := z10) (by decide)) (k := 10) (j := M10 0 9) (z := (M10 10 (M10 0 9)) + 1) (by decide)) (k := 14) (j := M10 0 41) (z := 0) (by decide)) (k := 15) (by decide)).1) (MR.putA (MR.putA (MR.putA mr10 (k := 13) (j := (12 * (M5 0 9)) + (M5 10 (M5 0 9))) (z := z10) (by decide)) (k := 10) (j := M10 0 9) (z := (M10 10 (M10 0 9)) + 1) (by decide)) (k := 14) (j := M10 0 41) (z := 0) (by decide)).1 ?_
          refine X_aload_n dX12_readEnum_134 rfl ?_
          refine X_getfield (ci := 12) (k := 41) (v := vi (M10 0 41)) dX12_readEnum_135 rfl (by decide) kf_RX12_269 (congrArg vi (MR.in_ (MR.putA (MR.putA (MR.putA mr10 (k := 13) (j := (12 * (M5 0 9)) + (M5 10 (M5 0 9))) (z := z10) (by decide)) (k := 10) (j := M10 0 9) (z := (M10 10 (M10 0 9)) + 1) (by decide)) (k := 14) (j := M10 0 41) (z := 0) (by decide)) (k := 41) (by decide) ((up_ne (Or.inl (by decide))).trans ((up_ne (Or.inl (by decide))).trans (up_ne (Or.inl (by decide))))))) (MR.putA (MR.putA (MR.putA mr10 (k := 13) (j := (12 * (M5 0 9)) + (M5 10 (M5 0 9))) (z := z10) (by decide)) (k := 10) (j := M10 0 9) (z := (M10 10 (M10 0 9)) + 1) (by decide)) (k := 14) (j := M10 0 41) (z := 0) (by decide)).1 ?_
          refine X_iconst dX12_readEnum_138 (by decide) ?_
          refine X_iastore dX12_readEnum_139 ((MR.ar (MR.putA (MR.putA (MR.putA mr10 (k := 13) (j := (12 * (M5 0 9)) + (M5 10 (M5 0 9))) (z := z10) (by decide)) (k := 10) (j := M10 0 9) (z := (M10 10 (M10 0 9)) + 1) (by decide)) (k := 14) (j := M10 0 41) (z := 0) (by decide)) (k := 15) (by decide)).2.1.trans (by decide)) (hc11.2.2.1 c12).2.2.2.2.1 (lt_eq (hc11.2.2.1 c12).2.2.2.2.2.1 (MR.ln (MR.putA (MR.putA (MR.putA mr10 (k := 13) (j := (12 * (M5 0 9)) + (M5 10 (M5 0 9))) (z := z10) (by decide)) (k := 10) (j := M10 0 9) (z := (M10 10 (M10 0 9)) + 1) (by decide)) (k := 14) (j := M10 0 41) (z := 0) (by decide)) (k := 15) (by decide) (by decide))) ?_
          refine X_aload_n dX12_readEnum_140 rfl ?_
          refine X_getfield (ci := 12) (k := 16) (v := vr (a 16)) dX12_readEnum_141 rfl (by decide) kf_RX12_35 (congrArg vr (MR.ar (MR.putA (MR.putA (MR.putA (MR.putA mr10 (k := 13) (j := (12 * (M5 0 9)) + (M5 10 (M5 0 9))) (z := z10) (by decide)) (k := 10) (j := M10 0 9) (z := (M10 10 (M10 0 9)) + 1) (by decide)) (k := 14) (j := M10 0 41) (z := 0) (by decide)) (k := 15) (j := M10 0 41) (z := 0) (by decide)) (k := 16) (by decide)).1) (MR.putA (MR.putA (MR.putA (MR.putA mr10 (k := 13) (j := (12 * (M5 0 9)) + (M5 10 (M5 0 9))) (z := z10) (by decide)) (k := 10) (j := M10 0 9) (z := (M10 10 (M10 0 9)) + 1) (by decide)) (k := 14) (j := M10 0 41) (z := 0) (by decide)) (k := 15) (j := M10 0 41) (z := 0) (by decide)).1 ?_
          refine X_aload_n dX12_readEnum_144 rfl ?_
          refine X_getfield (ci := 12) (k := 41) (v := vi (M10 0 41)) dX12_readEnum_145 rfl (by decide) kf_RX12_269 (congrArg vi (MR.in_ (MR.putA (MR.putA (MR.putA (MR.putA mr10 (k := 13) (j := (12 * (M5 0 9)) + (M5 10 (M5 0 9))) (z := z10) (by decide)) (k := 10) (j := M10 0 9) (z := (M10 10 (M10 0 9)) + 1) (by decide)) (k := 14) (j := M10 0 41) (z := 0) (by decide)) (k := 15) (j := M10 0 41) (z := 0) (by decide)) (k := 41) (by decide) ((up_ne (Or.inl (by decide))).trans ((up_ne (Or.inl (by decide))).trans ((up_ne (Or.inl (by decide))).trans (up_ne (Or.inl (by decide)))))))) (MR.putA (MR.putA (MR.putA (MR.putA mr10 (k := 13) (j := (12 * (M5 0 9)) + (M5 10 (M5 0 9))) (z := z10) (by decide)) (k := 10) (j := M10 0 9) (z := (M10 10 (M10 0 9)) + 1) (by decide)) (k := 14) (j := M10 0 41) (z := 0) (by decide)) (k := 15) (j := M10 0 41) (z := 0) (by decide)).1 ?_
          refine X_iconst dX12_readEnum_148 (by decide) ?_
          refine X_iastore dX12_readEnum_149 ((MR.ar (MR.putA (MR.putA (MR.putA (MR.putA mr10 (k := 13) (j := (12 * (M5 0 9)) + (M5 10 (M5 0 9))) (z := z10) (by decide)) (k := 10) (j := M10 0 9) (z := (M10 10 (M10 0 9)) + 1) (by decide)) (k := 14) (j := M10 0 41) (z := 0) (by decide)) (k := 15) (j := M10 0 41) (z := 0) (by decide)) (k := 16) (by decide)).2.1.trans (by decide)) (hc11.2.2.1 c12).2.2.2.2.1 (lt_eq (hc11.2.2.1 c12).2.2.2.2.2.1 (MR.ln (MR.putA (MR.putA (MR.putA (MR.putA mr10 (k := 13) (j := (12 * (M5 0 9)) + (M5 10 (M5 0 9))) (z := z10) (by decide)) (k := 10) (j := M10 0 9) (z := (M10 10 (M10 0 9)) + 1) (by decide)) (k := 14) (j := M10 0 41) (z := 0) (by decide)) (k := 15) (j := M10 0 41) (z := 0) (by decide)) (k := 16) (by decide) (by decide))) ?_
          refine X_aload_n dX12_readEnum_150 rfl ?_
          refine X_getfield (ci := 12) (k := 17) (v := vr (a 17)) dX12_readEnum_151 rfl (by decide) kf_RX12_38 (congrArg vr (MR.ar (MR.putA (MR.putA (MR.putA (MR.putA (MR.putA mr10 (k := 13) (j := (12 * (M5 0 9)) + (M5 10 (M5 0 9))) (z := z10) (by decide)) (k := 10) (j := M10 0 9) (z := (M10 10 (M10 0 9)) + 1) (by decide)) (k := 14) (j := M10 0 41) (z := 0) (by decide)) (k := 15) (j := M10 0 41) (z := 0) (by decide)) (k := 16) (j := M10 0 41) (z := 0) (by decide)) (k := 17) (by decide)).1) (MR.putA (MR.putA (MR.putA (MR.putA (MR.putA mr10 (k := 13) (j := (12 * (M5 0 9)) + (M5 10 (M5 0 9))) (z := z10) (by decide)) (k := 10) (j := M10 0 9) (z := (M10 10 (M10 0 9)) + 1) (by decide)) (k := 14) (j := M10 0 41) (z := 0) (by decide)) (k := 15) (j := M10 0 41) (z := 0) (by decide)) (k := 16) (j := M10 0 41) (z := 0) (by decide)).1 ?_
          refine X_aload_n dX12_readEnum_154 rfl ?_
          refine X_getfield (ci := 12) (k := 41) (v := vi (M10 0 41)) dX12_readEnum_155 rfl (by decide) kf_RX12_269 (congrArg vi (MR.in_ (MR.putA (MR.putA (MR.putA (MR.putA (MR.putA mr10 (k := 13) (j := (12 * (M5 0 9)) + (M5 10 (M5 0 9))) (z := z10) (by decide)) (k := 10) (j := M10 0 9) (z := (M10 10 (M10 0 9)) + 1) (by decide)) (k := 14) (j := M10 0 41) (z := 0) (by decide)) (k := 15) (j := M10 0 41) (z := 0) (by decide)) (k := 16) (j := M10 0 41) (z := 0) (by decide)) (k := 41) (by decide) ((up_ne (Or.inl (by decide))).trans ((up_ne (Or.inl (by decide))).trans ((up_ne (Or.inl (by decide))).trans ((up_ne (Or.inl (by decide))).trans (up_ne (Or.inl (by decide))))))))) (MR.putA (MR.putA (MR.putA (MR.putA (MR.putA mr10 (k := 13) (j := (12 * (M5 0 9)) + (M5 10 (M5 0 9))) (z := z10) (by decide)) (k := 10) (j := M10 0 9) (z := (M10 10 (M10 0 9)) + 1) (by decide)) (k := 14) (j := M10 0 41) (z := 0) (by decide)) (k := 15) (j := M10 0 41) (z := 0) (by decide)) (k := 16) (j := M10 0 41) (z := 0) (by decide)).1 ?_
          refine X_iconst dX12_readEnum_158 (by decide) ?_
          refine X_iastore dX12_readEnum_159 ((MR.ar (MR.putA (MR.putA (MR.putA (MR.putA (MR.putA mr10 (k := 13) (j := (12 * (M5 0 9)) + (M5 10 (M5 0 9))) (z := z10) (by decide)) (k := 10) (j := M10 0 9) (z := (M10 10 (M10 0 9)) + 1) (by decide)) (k := 14) (j := M10 0 41) (z := 0) (by decide)) (k := 15) (j := M10 0 41) (z := 0) (by decide)) (k := 16) (j := M10 0 41) (z := 0) (by decide)) (k := 17) (by decide)).2.1.trans (by decide)) (hc11.2.2.1 c12).2.2.2.2.1 (lt_eq (hc11.2.2.1 c12).2.2.2.2.2.1 (MR.ln (MR.putA (MR.putA (MR.putA (MR.putA (MR.putA mr10 (k := 13) (j := (12 * (M5 0 9)) + (M5 10 (M5 0 9))) (z := z10) (by decide)) (k := 10) (j := M10 0 9) (z := (M10 10 (M10 0 9)) + 1) (by decide)) (k := 14) (j := M10 0 41) (z := 0) (by decide)) (k := 15) (j := M10 0 41) (z := 0) (by decide)) (k := 16) (j := M10 0 41) (z := 0) (by decide)) (k := 17) (by decide) (by decide))) ?_
          refine X_aload_n dX12_readEnum_160 rfl ?_
          refine X_getfield (ci := 12) (k := 18) (v := vr (a 18)) dX12_readEnum_161 rfl (by decide) kf_RX12_41 (congrArg vr (MR.ar (MR.putA (MR.putA (MR.putA (MR.putA (MR.putA (MR.putA mr10 (k := 13) (j := (12 * (M5 0 9)) + (M5 10 (M5 0 9))) (z := z10) (by decide)) (k := 10) (j := M10 0 9) (z := (M10 10 (M10 0 9)) + 1) (by decide)) (k := 14) (j := M10 0 41) (z := 0) (by decide)) (k := 15) (j := M10 0 41) (z := 0) (by decide)) (k := 16) (j := M10 0 41) (z := 0) (by decide)) (k := 17) (j := M10 0 41) (z := 0) (by decide)) (k := 18) (by decide)).1) (MR.putA (MR.putA (MR.putA (MR.putA (MR.putA (MR.putA mr10 (k := 13) (j := (12 * (M5 0 9)) + (M5 10 (M5 0 9))) (z := z10) (by decide)) (k := 10) (j := M10 0 9) (z := (M10 10 (M10 0 9)) + 1) (by decide)) (k := 14) (j := M10 0 41) (z := 0) (by decide)) (k := 15) (j := M10 0 41) (z := 0) (by decide)) (k := 16) (j := M10 0 41) (z := 0) (by decide)) (k := 17) (j := M10 0 41) (z := 0) (by decide)).1 ?_
          refine X_aload_n dX12_readEnum_164 rfl ?_
          refine X_getfield (ci := 12) (k := 41) (v := vi (M10 0 41)) dX12_readEnum_165 rfl (by decide) kf_RX12_269 (congrArg vi (MR.in_ (MR.putA (MR.putA (MR.putA (MR.putA (MR.putA (MR.putA mr10 (k := 13) (j := (12 * (M5 0 9)) + (M5 10 (M5 0 9))) (z := z10) (by decide)) (k := 10) (j := M10 0 9) (z := (M10 10 (M10 0 9)) + 1) (by decide)) (k := 14) (j := M10 0 41) (z := 0) (by decide)) (k := 15) (j := M10 0 41) (z := 0) (by decide)) (k := 16) (j := M10 0 41) (z := 0) (by decide)) (k := 17) (j := M10 0 41) (z := 0) (by decide)) (k := 41) (by decide) ((up_ne (Or.inl (by decide))).trans ((up_ne (Or.inl (by decide))).trans ((up_ne (Or.inl (by decide))).trans ((up_ne (Or.inl (by decide))).trans ((up_ne (Or.inl (by decide))).trans (up_ne (Or.inl (by decide)))))))))) (MR.putA (MR.putA (MR.putA (MR.putA (MR.putA (MR.putA mr10 (k := 13) (j := (12 * (M5 0 9)) + (M5 10 (M5 0 9))) (z := z10) (by decide)) (k := 10) (j := M10 0 9) (z := (M10 10 (M10 0 9)) + 1) (by decide)) (k := 14) (j := M10 0 41) (z := 0) (by decide)) (k := 15) (j := M10 0 41) (z := 0) (by decide)) (k := 16) (j := M10 0 41) (z := 0) (by decide)) (k := 17) (j := M10 0 41) (z := 0) (by decide)).1 ?_
          refine X_iconst dX12_readEnum_168 (by decide) ?_
          refine X_iastore dX12_readEnum_169 ((MR.ar (MR.putA (MR.putA (MR.putA (MR.putA (MR.putA (MR.putA mr10 (k := 13) (j := (12 * (M5 0 9)) + (M5 10 (M5 0 9))) (z := z10) (by decide)) (k := 10) (j := M10 0 9) (z := (M10 10 (M10 0 9)) + 1) (by decide)) (k := 14) (j := M10 0 41) (z := 0) (by decide)) (k := 15) (j := M10 0 41) (z := 0) (by decide)) (k := 16) (j := M10 0 41) (z := 0) (by decide)) (k := 17) (j := M10 0 41) (z := 0) (by decide)) (k := 18) (by decide)).2.1.trans (by decide)) (hc11.2.2.1 c12).2.2.2.2.1 (lt_eq (hc11.2.2.1 c12).2.2.2.2.2.1 (MR.ln (MR.putA (MR.putA (MR.putA (MR.putA (MR.putA (MR.putA mr10 (k := 13) (j := (12 * (M5 0 9)) + (M5 10 (M5 0 9))) (z := z10) (by decide)) (k := 10) (j := M10 0 9) (z := (M10 10 (M10 0 9)) + 1) (by decide)) (k := 14) (j := M10 0 41) (z := 0) (by decide)) (k := 15) (j := M10 0 41) (z := 0) (by decide)) (k := 16) (j := M10 0 41) (z := 0) (by decide)) (k := 17) (j := M10 0 41) (z := 0) (by decide)) (k := 18) (by decide) (by decide))) ?_
          refine X_iconst dX12_readEnum_170 (by decide) ?_
          refine X_istore_n dX12_readEnum_171 (by decide) rfl ?_
          exact hrc n_readEnum_172 [0] _ _ (hc11.2.2.1 c12).2.2.2.2.2.2 (MR.putA (MR.putA (MR.putA (MR.putA (MR.putA (MR.putA (MR.putA mr10 (k := 13) (j := (12 * (M5 0 9)) + (M5 10 (M5 0 9))) (z := z10) (by decide)) (k := 10) (j := M10 0 9) (z := (M10 10 (M10 0 9)) + 1) (by decide)) (k := 14) (j := M10 0 41) (z := 0) (by decide)) (k := 15) (j := M10 0 41) (z := 0) (by decide)) (k := 16) (j := M10 0 41) (z := 0) (by decide)) (k := 17) (j := M10 0 41) (z := 0) (by decide)) (k := 18) (j := M10 0 41) (z := 0) (by decide)) (MF.putA (MF.putA (MF.putA (MF.putA (MF.putA (MF.putA (MF.putA mf10 (k := 13) (j := (12 * (M5 0 9)) + (M5 10 (M5 0 9))) (z := z10) (by decide)) (k := 10) (j := M10 0 9) (z := (M10 10 (M10 0 9)) + 1) (by decide)) (k := 14) (j := M10 0 41) (z := 0) (by decide)) (k := 15) (j := M10 0 41) (z := 0) (by decide)) (k := 16) (j := M10 0 41) (z := 0) (by decide)) (k := 17) (j := M10 0 41) (z := 0) (by decide)) (k := 18) (j := M10 0 41) (z := 0) (by decide))
        · exact X_ret (z := 0) dX12_readEnum_106 rfl (fun _ => trivial) ⟨rfl, _, (hc11.2.2.2 c12), (MR.putA mr10 (k := 13) (j := (12 * (M5 0 9)) + (M5 10 (M5 0 9))) (z := z10) (by decide)), (MF.putA mf10 (k := 13) (j := (12 * (M5 0 9)) + (M5 10 (M5 0 9))) (z := z10) (by decide))⟩
      · refine X_aload_n dX12_readEnum_78 rfl ?_
        refine X_aload_n dX12_readEnum_79 rfl ?_
        refine X_invV (ci := 12) (as := []) (st := [vr m, vr m, vi ((12 * (M5 0 9)) + (M5 10 (M5 0 9))), vr (a 13)]) okX12_nameHere dX12_readEnum_80 km_RX12_294 rfl rfl (Nat.le_of_ble_eq_true rfl) rfl rfl mr7.1 (CT.of d 0 0 (hcl n_nameHere_0 rfl [] _ _ _ (hc8.2 c9) mr7) (Nat.le_refl _) (Nat.zero_le _) (Nat.zero_le _) (fun z13 S13 V13 hq13 => ?_))
        obtain ⟨rfl, M13, hc14, mr13, hf13⟩ := hq13
        have mf13 := MF.trans mf7 hf13
        refine X_invV (ci := 12) (as := [vi z13]) (st := [vr m, vi ((12 * (M5 0 9)) + (M5 10 (M5 0 9))), vr (a 13)]) okX12_enumOf dX12_readEnum_83 km_RX12_311 rfl rfl (Nat.le_of_ble_eq_true rfl) rfl rfl mr13.1 (CT.of d 0 0 (hcl n_enumOf_0 rfl [z13] _ _ _ hc14 mr13) (Nat.le_refl _) (Nat.zero_le _) (Nat.zero_le _) (fun z15 S15 V15 hq15 => ?_))
        obtain ⟨rfl, M15, hc16, mr15, hf15⟩ := hq15
        have mf15 := MF.trans mf13 hf15
        refine X_iconst dX12_readEnum_86 (by decide) ?_
        refine X_icmp_eq dX12_readEnum_87 (tgt := 94) rfl (fun c17 => ?_) (fun c17 => ?_)
        · refine X_iconst dX12_readEnum_94 (by decide) ?_
          refine X_invV (ci := 12) (as := [vi 0]) (st := [vi ((12 * (M5 0 9)) + (M5 10 (M5 0 9))), vr (a 13)]) okX12_newName dX12_readEnum_95 km_RX12_314 rfl rfl (Nat.le_of_ble_eq_true rfl) rfl rfl mr15.1 (CT.of d 0 0 (hcl n_newName_0 rfl [0] _ _ _ (hc16.1 c17) mr15) (Nat.le_refl _) (Nat.zero_le _) (Nat.zero_le _) (fun z18 S18 V18 hq18 => ?_))
          obtain ⟨rfl, M18, hc19, mr18, hf18⟩ := hq18
          have mf18 := MF.trans mf15 hf18
          refine X_iastore dX12_readEnum_98 ((MR.ar mr18 (k := 13) (by decide)).2.1.trans (by decide)) hc19.1 (lt_eq hc19.2.1 (MR.ln mr18 (k := 13) (by decide) (by decide))) ?_
          refine X_aload_n dX12_readEnum_99 rfl ?_
          refine X_getfield (ci := 12) (k := 46) (v := vi (M18 0 46)) dX12_readEnum_100 rfl (by decide) kf_RX12_275 (congrArg vi (MR.in_ (MR.putA mr18 (k := 13) (j := (12 * (M5 0 9)) + (M5 10 (M5 0 9))) (z := z18) (by decide)) (k := 46) (by decide) (up_ne (Or.inl (by decide))))) (MR.putA mr18 (k := 13) (j := (12 * (M5 0 9)) + (M5 10 (M5 0 9))) (z := z18) (by decide)).1 ?_
          refine X_if_le dX12_readEnum_103 (tgt := 107) rfl (fun c20 => ?_) (fun c20 => ?_)
          · refine X_aload_n dX12_readEnum_107 rfl ?_
            refine X_getfield (ci := 12) (k := 10) (v := vr (a 10)) dX12_readEnum_108 rfl (by decide) kf_RX12_16 (congrArg vr (MR.ar (MR.putA mr18 (k := 13) (j := (12 * (M5 0 9)) + (M5 10 (M5 0 9))) (z := z18) (by decide)) (k := 10) (by decide)).1) (MR.putA mr18 (k := 13) (j := (12 * (M5 0 9)) + (M5 10 (M5 0 9))) (z := z18) (by decide)).1 ?_
            refine X_aload_n dX12_readEnum_111 rfl ?_
            refine X_getfield (ci := 12) (k := 9) (v := vi (M18 0 9)) dX12_readEnum_112 rfl (by decide) kf_RX12_263 (congrArg vi (MR.in_ (MR.putA mr18 (k := 13) (j := (12 * (M5 0 9)) + (M5 10 (M5 0 9))) (z := z18) (by decide)) (k := 9) (by decide) (up_ne (Or.inl (by decide))))) (MR.putA mr18 (k := 13) (j := (12 * (M5 0 9)) + (M5 10 (M5 0 9))) (z := z18) (by decide)).1 ?_
            refine X_dup2 dX12_readEnum_115 rfl (rv_cat _) ?_
            refine X_iaload dX12_readEnum_116 ((MR.ar (MR.putA mr18 (k := 13) (j := (12 * (M5 0 9)) + (M5 10 (M5 0 9))) (z := z18) (by decide)) (k := 10) (by decide)).2.1.trans (by decide)) (hc19.2.2.1 c20).1 (lt_eq (hc19.2.2.1 c20).2.1 (MR.ln (MR.putA mr18 (k := 13) (j := (12 * (M5 0 9)) + (M5 10 (M5 0 9))) (z := z18) (by decide)) (k := 10) (by decide) (by decide))) ?_
            refine X_top (v := vi (M18 10 (M18 0 9))) (congrArg vi (MR.el (MR.putA mr18 (k := 13) (j := (12 * (M5 0 9)) + (M5 10 (M5 0 9))) (z := z18) (by decide)) (k := 10) (by decide) (up_ne (Or.inl (by decide))))) ?_
            refine X_iconst dX12_readEnum_117 (by decide) ?_
            refine X_iaddN dX12_readEnum_118 (hc19.2.2.1 c20).2.2.1 (hc19.2.2.1 c20).2.2.2.1 ?_
            refine X_iastore dX12_readEnum_119 ((MR.ar (MR.putA mr18 (k := 13) (j := (12 * (M5 0 9)) + (M5 10 (M5 0 9))) (z := z18) (by decide)) (k := 10) (by decide)).2.1.trans (by decide)) (hc19.2.2.1 c20).1 (lt_eq (hc19.2.2.1 c20).2.1 (MR.ln (MR.putA mr18 (k := 13) (j := (12 * (M5 0 9)) + (M5 10 (M5 0 9))) (z := z18) (by decide)) (k := 10) (by decide) (by decide))) ?_
            refine X_aload_n dX12_readEnum_120 rfl ?_
            refine X_getfield (ci := 12) (k := 14) (v := vr (a 14)) dX12_readEnum_121 rfl (by decide) kf_RX12_29 (congrArg vr (MR.ar (MR.putA (MR.putA mr18 (k := 13) (j := (12 * (M5 0 9)) + (M5 10 (M5 0 9))) (z := z18) (by decide)) (k := 10) (j := M18 0 9) (z := (M18 10 (M18 0 9)) + 1) (by decide)) (k := 14) (by decide)).1) (MR.putA (MR.putA mr18 (k := 13) (j := (12 * (M5 0 9)) + (M5 10 (M5 0 9))) (z := z18) (by decide)) (k := 10) (j := M18 0 9) (z := (M18 10 (M18 0 9)) + 1) (by decide)).1 ?_
            refine X_aload_n dX12_readEnum_124 rfl ?_
            refine X_getfield (ci := 12) (k := 41) (v := vi (M18 0 41)) dX12_readEnum_125 rfl (by decide) kf_RX12_269 (congrArg vi (MR.in_ (MR.putA (MR.putA mr18 (k := 13) (j := (12 * (M5 0 9)) + (M5 10 (M5 0 9))) (z := z18) (by decide)) (k := 10) (j := M18 0 9) (z := (M18 10 (M18 0 9)) + 1) (by decide)) (k := 41) (by decide) ((up_ne (Or.inl (by decide))).trans (up_ne (Or.inl (by decide)))))) (MR.putA (MR.putA mr18 (k := 13) (j := (12 * (M5 0 9)) + (M5 10 (M5 0 9))) (z := z18) (by decide)) (k := 10) (j := M18 0 9) (z := (M18 10 (M18 0 9)) + 1) (by decide)).1 ?_
            refine X_iconst dX12_readEnum_128 (by decide) ?_
            refine X_iastore dX12_readEnum_129 ((MR.ar (MR.putA (MR.putA mr18 (k := 13) (j := (12 * (M5 0 9)) + (M5 10 (M5 0 9))) (z := z18) (by decide)) (k := 10) (j := M18 0 9) (z := (M18 10 (M18 0 9)) + 1) (by decide)) (k := 14) (by decide)).2.1.trans (by decide)) (hc19.2.2.1 c20).2.2.2.2.1 (lt_eq (hc19.2.2.1 c20).2.2.2.2.2.1 (MR.ln (MR.putA (MR.putA mr18 (k := 13) (j := (12 * (M5 0 9)) + (M5 10 (M5 0 9))) (z := z18) (by decide)) (k := 10) (j := M18 0 9) (z := (M18 10 (M18 0 9)) + 1) (by decide)) (k := 14) (by decide) (by decide))) ?_
            refine X_aload_n dX12_readEnum_130 rfl ?_
            refine X_getfield (ci := 12) (k := 15) (v := vr (a 15)) dX12_readEnum_131 rfl (by decide) kf_RX12_32 (congrArg vr (MR.ar (MR.putA (MR.putA (MR.putA mr18 (k := 13) (j := (12 * (M5 0 9)) + (M5 10 (M5 0 9))) (z := z18) (by decide)) (k := 10) (j := M18 0 9) (z := (M18 10 (M18 0 9)) + 1) (by decide)) (k := 14) (j := M18 0 41) (z := 0) (by decide)) (k := 15) (by decide)).1) (MR.putA (MR.putA (MR.putA mr18 (k := 13) (j := (12 * (M5 0 9)) + (M5 10 (M5 0 9))) (z := z18) (by decide)) (k := 10) (j := M18 0 9) (z := (M18 10 (M18 0 9)) + 1) (by decide)) (k := 14) (j := M18 0 41) (z := 0) (by decide)).1 ?_
            refine X_aload_n dX12_readEnum_134 rfl ?_
            refine X_getfield (ci := 12) (k := 41) (v := vi (M18 0 41)) dX12_readEnum_135 rfl (by decide) kf_RX12_269 (congrArg vi (MR.in_ (MR.putA (MR.putA (MR.putA mr18 (k := 13) (j := (12 * (M5 0 9)) + (M5 10 (M5 0 9))) (z := z18) (by decide)) (k := 10) (j := M18 0 9) (z := (M18 10 (M18 0 9)) + 1) (by decide)) (k := 14) (j := M18 0 41) (z := 0) (by decide)) (k := 41) (by decide) ((up_ne (Or.inl (by decide))).trans ((up_ne (Or.inl (by decide))).trans (up_ne (Or.inl (by decide))))))) (MR.putA (MR.putA (MR.putA mr18 (k := 13) (j := (12 * (M5 0 9)) + (M5 10 (M5 0 9))) (z := z18) (by decide)) (k := 10) (j := M18 0 9) (z := (M18 10 (M18 0 9)) + 1) (by decide)) (k := 14) (j := M18 0 41) (z := 0) (by decide)).1 ?_
            refine X_iconst dX12_readEnum_138 (by decide) ?_
            refine X_iastore dX12_readEnum_139 ((MR.ar (MR.putA (MR.putA (MR.putA mr18 (k := 13) (j := (12 * (M5 0 9)) + (M5 10 (M5 0 9))) (z := z18) (by decide)) (k := 10) (j := M18 0 9) (z := (M18 10 (M18 0 9)) + 1) (by decide)) (k := 14) (j := M18 0 41) (z := 0) (by decide)) (k := 15) (by decide)).2.1.trans (by decide)) (hc19.2.2.1 c20).2.2.2.2.1 (lt_eq (hc19.2.2.1 c20).2.2.2.2.2.1 (MR.ln (MR.putA (MR.putA (MR.putA mr18 (k := 13) (j := (12 * (M5 0 9)) + (M5 10 (M5 0 9))) (z := z18) (by decide)) (k := 10) (j := M18 0 9) (z := (M18 10 (M18 0 9)) + 1) (by decide)) (k := 14) (j := M18 0 41) (z := 0) (by decide)) (k := 15) (by decide) (by decide))) ?_
            refine X_aload_n dX12_readEnum_140 rfl ?_
            refine X_getfield (ci := 12) (k := 16) (v := vr (a 16)) dX12_readEnum_141 rfl (by decide) kf_RX12_35 (congrArg vr (MR.ar (MR.putA (MR.putA (MR.putA (MR.putA mr18 (k := 13) (j := (12 * (M5 0 9)) + (M5 10 (M5 0 9))) (z := z18) (by decide)) (k := 10) (j := M18 0 9) (z := (M18 10 (M18 0 9)) + 1) (by decide)) (k := 14) (j := M18 0 41) (z := 0) (by decide)) (k := 15) (j := M18 0 41) (z := 0) (by decide)) (k := 16) (by decide)).1) (MR.putA (MR.putA (MR.putA (MR.putA mr18 (k := 13) (j := (12 * (M5 0 9)) + (M5 10 (M5 0 9))) (z := z18) (by decide)) (k := 10) (j := M18 0 9) (z := (M18 10 (M18 0 9)) + 1) (by decide)) (k := 14) (j := M18 0 41) (z := 0) (by decide)) (k := 15) (j := M18 0 41) (z := 0) (by decide)).1 ?_
            refine X_aload_n dX12_readEnum_144 rfl ?_
            refine X_getfield (ci := 12) (k := 41) (v := vi (M18 0 41)) dX12_readEnum_145 rfl (by decide) kf_RX12_269 (congrArg vi (MR.in_ (MR.putA (MR.putA (MR.putA (MR.putA mr18 (k := 13) (j := (12 * (M5 0 9)) + (M5 10 (M5 0 9))) (z := z18) (by decide)) (k := 10) (j := M18 0 9) (z := (M18 10 (M18 0 9)) + 1) (by decide)) (k := 14) (j := M18 0 41) (z := 0) (by decide)) (k := 15) (j := M18 0 41) (z := 0) (by decide)) (k := 41) (by decide) ((up_ne (Or.inl (by decide))).trans ((up_ne (Or.inl (by decide))).trans ((up_ne (Or.inl (by decide))).trans (up_ne (Or.inl (by decide)))))))) (MR.putA (MR.putA (MR.putA (MR.putA mr18 (k := 13) (j := (12 * (M5 0 9)) + (M5 10 (M5 0 9))) (z := z18) (by decide)) (k := 10) (j := M18 0 9) (z := (M18 10 (M18 0 9)) + 1) (by decide)) (k := 14) (j := M18 0 41) (z := 0) (by decide)) (k := 15) (j := M18 0 41) (z := 0) (by decide)).1 ?_
            refine X_iconst dX12_readEnum_148 (by decide) ?_
            refine X_iastore dX12_readEnum_149 ((MR.ar (MR.putA (MR.putA (MR.putA (MR.putA mr18 (k := 13) (j := (12 * (M5 0 9)) + (M5 10 (M5 0 9))) (z := z18) (by decide)) (k := 10) (j := M18 0 9) (z := (M18 10 (M18 0 9)) + 1) (by decide)) (k := 14) (j := M18 0 41) (z := 0) (by decide)) (k := 15) (j := M18 0 41) (z := 0) (by decide)) (k := 16) (by decide)).2.1.trans (by decide)) (hc19.2.2.1 c20).2.2.2.2.1 (lt_eq (hc19.2.2.1 c20).2.2.2.2.2.1 (MR.ln (MR.putA (MR.putA (MR.putA (MR.putA mr18 (k := 13) (j := (12 * (M5 0 9)) + (M5 10 (M5 0 9))) (z := z18) (by decide)) (k := 10) (j := M18 0 9) (z := (M18 10 (M18 0 9)) + 1) (by decide)) (k := 14) (j := M18 0 41) (z := 0) (by decide)) (k := 15) (j := M18 0 41) (z := 0) (by decide)) (k := 16) (by decide) (by decide))) ?_
            refine X_aload_n dX12_readEnum_150 rfl ?_
            refine X_getfield (ci := 12) (k := 17) (v := vr (a 17)) dX12_readEnum_151 rfl (by decide) kf_RX12_38 (congrArg vr (MR.ar (MR.putA (MR.putA (MR.putA (MR.putA (MR.putA mr18 (k := 13) (j := (12 * (M5 0 9)) + (M5 10 (M5 0 9))) (z := z18) (by decide)) (k := 10) (j := M18 0 9) (z := (M18 10 (M18 0 9)) + 1) (by decide)) (k := 14) (j := M18 0 41) (z := 0) (by decide)) (k := 15) (j := M18 0 41) (z := 0) (by decide)) (k := 16) (j := M18 0 41) (z := 0) (by decide)) (k := 17) (by decide)).1) (MR.putA (MR.putA (MR.putA (MR.putA (MR.putA mr18 (k := 13) (j := (12 * (M5 0 9)) + (M5 10 (M5 0 9))) (z := z18) (by decide)) (k := 10) (j := M18 0 9) (z := (M18 10 (M18 0 9)) + 1) (by decide)) (k := 14) (j := M18 0 41) (z := 0) (by decide)) (k := 15) (j := M18 0 41) (z := 0) (by decide)) (k := 16) (j := M18 0 41) (z := 0) (by decide)).1 ?_
            refine X_aload_n dX12_readEnum_154 rfl ?_
            refine X_getfield (ci := 12) (k := 41) (v := vi (M18 0 41)) dX12_readEnum_155 rfl (by decide) kf_RX12_269 (congrArg vi (MR.in_ (MR.putA (MR.putA (MR.putA (MR.putA (MR.putA mr18 (k := 13) (j := (12 * (M5 0 9)) + (M5 10 (M5 0 9))) (z := z18) (by decide)) (k := 10) (j := M18 0 9) (z := (M18 10 (M18 0 9)) + 1) (by decide)) (k := 14) (j := M18 0 41) (z := 0) (by decide)) (k := 15) (j := M18 0 41) (z := 0) (by decide)) (k := 16) (j := M18 0 41) (z := 0) (by decide)) (k := 41) (by decide) ((up_ne (Or.inl (by decide))).trans ((up_ne (Or.inl (by decide))).trans ((up_ne (Or.inl (by decide))).trans ((up_ne (Or.inl (by decide))).trans (up_ne (Or.inl (by decide))))))))) (MR.putA (MR.putA (MR.putA (MR.putA (MR.putA mr18 (k := 13) (j := (12 * (M5 0 9)) + (M5 10 (M5 0 9))) (z := z18) (by decide)) (k := 10) (j := M18 0 9) (z := (M18 10 (M18 0 9)) + 1) (by decide)) (k := 14) (j := M18 0 41) (z := 0) (by decide)) (k := 15) (j := M18 0 41) (z := 0) (by decide)) (k := 16) (j := M18 0 41) (z := 0) (by decide)).1 ?_
            refine X_iconst dX12_readEnum_158 (by decide) ?_
            refine X_iastore dX12_readEnum_159 ((MR.ar (MR.putA (MR.putA (MR.putA (MR.putA (MR.putA mr18 (k := 13) (j := (12 * (M5 0 9)) + (M5 10 (M5 0 9))) (z := z18) (by decide)) (k := 10) (j := M18 0 9) (z := (M18 10 (M18 0 9)) + 1) (by decide)) (k := 14) (j := M18 0 41) (z := 0) (by decide)) (k := 15) (j := M18 0 41) (z := 0) (by decide)) (k := 16) (j := M18 0 41) (z := 0) (by decide)) (k := 17) (by decide)).2.1.trans (by decide)) (hc19.2.2.1 c20).2.2.2.2.1 (lt_eq (hc19.2.2.1 c20).2.2.2.2.2.1 (MR.ln (MR.putA (MR.putA (MR.putA (MR.putA (MR.putA mr18 (k := 13) (j := (12 * (M5 0 9)) + (M5 10 (M5 0 9))) (z := z18) (by decide)) (k := 10) (j := M18 0 9) (z := (M18 10 (M18 0 9)) + 1) (by decide)) (k := 14) (j := M18 0 41) (z := 0) (by decide)) (k := 15) (j := M18 0 41) (z := 0) (by decide)) (k := 16) (j := M18 0 41) (z := 0) (by decide)) (k := 17) (by decide) (by decide))) ?_
            refine X_aload_n dX12_readEnum_160 rfl ?_
            refine X_getfield (ci := 12) (k := 18) (v := vr (a 18)) dX12_readEnum_161 rfl (by decide) kf_RX12_41 (congrArg vr (MR.ar (MR.putA (MR.putA (MR.putA (MR.putA (MR.putA (MR.putA mr18 (k := 13) (j := (12 * (M5 0 9)) + (M5 10 (M5 0 9))) (z := z18) (by decide)) (k := 10) (j := M18 0 9) (z := (M18 10 (M18 0 9)) + 1) (by decide)) (k := 14) (j := M18 0 41) (z := 0) (by decide)) (k := 15) (j := M18 0 41) (z := 0) (by decide)) (k := 16) (j := M18 0 41) (z := 0) (by decide)) (k := 17) (j := M18 0 41) (z := 0) (by decide)) (k := 18) (by decide)).1) (MR.putA (MR.putA (MR.putA (MR.putA (MR.putA (MR.putA mr18 (k := 13) (j := (12 * (M5 0 9)) + (M5 10 (M5 0 9))) (z := z18) (by decide)) (k := 10) (j := M18 0 9) (z := (M18 10 (M18 0 9)) + 1) (by decide)) (k := 14) (j := M18 0 41) (z := 0) (by decide)) (k := 15) (j := M18 0 41) (z := 0) (by decide)) (k := 16) (j := M18 0 41) (z := 0) (by decide)) (k := 17) (j := M18 0 41) (z := 0) (by decide)).1 ?_
            refine X_aload_n dX12_readEnum_164 rfl ?_
            refine X_getfield (ci := 12) (k := 41) (v := vi (M18 0 41)) dX12_readEnum_165 rfl (by decide) kf_RX12_269 (congrArg vi (MR.in_ (MR.putA (MR.putA (MR.putA (MR.putA (MR.putA (MR.putA mr18 (k := 13) (j := (12 * (M5 0 9)) + (M5 10 (M5 0 9))) (z := z18) (by decide)) (k := 10) (j := M18 0 9) (z := (M18 10 (M18 0 9)) + 1) (by decide)) (k := 14) (j := M18 0 41) (z := 0) (by decide)) (k := 15) (j := M18 0 41) (z := 0) (by decide)) (k := 16) (j := M18 0 41) (z := 0) (by decide)) (k := 17) (j := M18 0 41) (z := 0) (by decide)) (k := 41) (by decide) ((up_ne (Or.inl (by decide))).trans ((up_ne (Or.inl (by decide))).trans ((up_ne (Or.inl (by decide))).trans ((up_ne (Or.inl (by decide))).trans ((up_ne (Or.inl (by decide))).trans (up_ne (Or.inl (by decide)))))))))) (MR.putA (MR.putA (MR.putA (MR.putA (MR.putA (MR.putA mr18 (k := 13) (j := (12 * (M5 0 9)) + (M5 10 (M5 0 9))) (z := z18) (by decide)) (k := 10) (j := M18 0 9) (z := (M18 10 (M18 0 9)) + 1) (by decide)) (k := 14) (j := M18 0 41) (z := 0) (by decide)) (k := 15) (j := M18 0 41) (z := 0) (by decide)) (k := 16) (j := M18 0 41) (z := 0) (by decide)) (k := 17) (j := M18 0 41) (z := 0) (by decide)).1 ?_
            refine X_iconst dX12_readEnum_168 (by decide) ?_
            refine X_iastore dX12_readEnum_169 ((MR.ar (MR.putA (MR.putA (MR.putA (MR.putA (MR.putA (MR.putA mr18 (k := 13) (j := (12 * (M5 0 9)) + (M5 10 (M5 0 9))) (z := z18) (by decide)) (k := 10) (j := M18 0 9) (z := (M18 10 (M18 0 9)) + 1) (by decide)) (k := 14) (j := M18 0 41) (z := 0) (by decide)) (k := 15) (j := M18 0 41) (z := 0) (by decide)) (k := 16) (j := M18 0 41) (z := 0) (by decide)) (k := 17) (j := M18 0 41) (z := 0) (by decide)) (k := 18) (by decide)).2.1.trans (by decide)) (hc19.2.2.1 c20).2.2.2.2.1 (lt_eq (hc19.2.2.1 c20).2.2.2.2.2.1 (MR.ln (MR.putA (MR.putA (MR.putA (MR.putA (MR.putA (MR.putA mr18 (k := 13) (j := (12 * (M5 0 9)) + (M5 10 (M5 0 9))) (z := z18) (by decide)) (k := 10) (j := M18 0 9) (z := (M18 10 (M18 0 9)) + 1) (by decide)) (k := 14) (j := M18 0 41) (z := 0) (by decide)) (k := 15) (j := M18 0 41) (z := 0) (by decide)) (k := 16) (j := M18 0 41) (z := 0) (by decide)) (k := 17) (j := M18 0 41) (z := 0) (by decide)) (k := 18) (by decide) (by decide))) ?_
            refine X_iconst dX12_readEnum_170 (by decide) ?_
            refine X_istore_n dX12_readEnum_171 (by decide) rfl ?_
            exact hrc n_readEnum_172 [0] _ _ (hc19.2.2.1 c20).2.2.2.2.2.2 (MR.putA (MR.putA (MR.putA (MR.putA (MR.putA (MR.putA (MR.putA mr18 (k := 13) (j := (12 * (M5 0 9)) + (M5 10 (M5 0 9))) (z := z18) (by decide)) (k := 10) (j := M18 0 9) (z := (M18 10 (M18 0 9)) + 1) (by decide)) (k := 14) (j := M18 0 41) (z := 0) (by decide)) (k := 15) (j := M18 0 41) (z := 0) (by decide)) (k := 16) (j := M18 0 41) (z := 0) (by decide)) (k := 17) (j := M18 0 41) (z := 0) (by decide)) (k := 18) (j := M18 0 41) (z := 0) (by decide)) (MF.putA (MF.putA (MF.putA (MF.putA (MF.putA (MF.putA (MF.putA mf18 (k := 13) (j := (12 * (M5 0 9)) + (M5 10 (M5 0 9))) (z := z18) (by decide)) (k := 10) (j := M18 0 9) (z := (M18 10 (M18 0 9)) + 1) (by decide)) (k := 14) (j := M18 0 41) (z := 0) (by decide)) (k := 15) (j := M18 0 41) (z := 0) (by decide)) (k := 16) (j := M18 0 41) (z := 0) (by decide)) (k := 17) (j := M18 0 41) (z := 0) (by decide)) (k := 18) (j := M18 0 41) (z := 0) (by decide))
          · exact X_ret (z := 0) dX12_readEnum_106 rfl (fun _ => trivial) ⟨rfl, _, (hc19.2.2.2 c20), (MR.putA mr18 (k := 13) (j := (12 * (M5 0 9)) + (M5 10 (M5 0 9))) (z := z18) (by decide)), (MF.putA mf18 (k := 13) (j := (12 * (M5 0 9)) + (M5 10 (M5 0 9))) (z := z18) (by decide))⟩
        · refine X_iconst dX12_readEnum_90 (by decide) ?_
          refine X_goto dX12_readEnum_91 (tgt := 95) rfl ?_
          refine X_invV (ci := 12) (as := [vi 1]) (st := [vi ((12 * (M5 0 9)) + (M5 10 (M5 0 9))), vr (a 13)]) okX12_newName dX12_readEnum_95 km_RX12_314 rfl rfl (Nat.le_of_ble_eq_true rfl) rfl rfl mr15.1 (CT.of d 0 0 (hcl n_newName_0 rfl [1] _ _ _ (hc16.2 c17) mr15) (Nat.le_refl _) (Nat.zero_le _) (Nat.zero_le _) (fun z21 S21 V21 hq21 => ?_))
          obtain ⟨rfl, M21, hc22, mr21, hf21⟩ := hq21
          have mf21 := MF.trans mf15 hf21
          refine X_iastore dX12_readEnum_98 ((MR.ar mr21 (k := 13) (by decide)).2.1.trans (by decide)) hc22.1 (lt_eq hc22.2.1 (MR.ln mr21 (k := 13) (by decide) (by decide))) ?_
          refine X_aload_n dX12_readEnum_99 rfl ?_
          refine X_getfield (ci := 12) (k := 46) (v := vi (M21 0 46)) dX12_readEnum_100 rfl (by decide) kf_RX12_275 (congrArg vi (MR.in_ (MR.putA mr21 (k := 13) (j := (12 * (M5 0 9)) + (M5 10 (M5 0 9))) (z := z21) (by decide)) (k := 46) (by decide) (up_ne (Or.inl (by decide))))) (MR.putA mr21 (k := 13) (j := (12 * (M5 0 9)) + (M5 10 (M5 0 9))) (z := z21) (by decide)).1 ?_
          refine X_if_le dX12_readEnum_103 (tgt := 107) rfl (fun c23 => ?_) (fun c23 => ?_)
          · refine X_aload_n dX12_readEnum_107 rfl ?_
            refine X_getfield (ci := 12) (k := 10) (v := vr (a 10)) dX12_readEnum_108 rfl (by decide) kf_RX12_16 (congrArg vr (MR.ar (MR.putA mr21 (k := 13) (j := (12 * (M5 0 9)) + (M5 10 (M5 0 9))) (z := z21) (by decide)) (k := 10) (by decide)).1) (MR.putA mr21 (k := 13) (j := (12 * (M5 0 9)) + (M5 10 (M5 0 9))) (z := z21) (by decide)).1 ?_
            refine X_aload_n dX12_readEnum_111 rfl ?_
            refine X_getfield (ci := 12) (k := 9) (v := vi (M21 0 9)) dX12_readEnum_112 rfl (by decide) kf_RX12_263 (congrArg vi (MR.in_ (MR.putA mr21 (k := 13) (j := (12 * (M5 0 9)) + (M5 10 (M5 0 9))) (z := z21) (by decide)) (k := 9) (by decide) (up_ne (Or.inl (by decide))))) (MR.putA mr21 (k := 13) (j := (12 * (M5 0 9)) + (M5 10 (M5 0 9))) (z := z21) (by decide)).1 ?_
            refine X_dup2 dX12_readEnum_115 rfl (rv_cat _) ?_
            refine X_iaload dX12_readEnum_116 ((MR.ar (MR.putA mr21 (k := 13) (j := (12 * (M5 0 9)) + (M5 10 (M5 0 9))) (z := z21) (by decide)) (k := 10) (by decide)).2.1.trans (by decide)) (hc22.2.2.1 c23).1 (lt_eq (hc22.2.2.1 c23).2.1 (MR.ln (MR.putA mr21 (k := 13) (j := (12 * (M5 0 9)) + (M5 10 (M5 0 9))) (z := z21) (by decide)) (k := 10) (by decide) (by decide))) ?_
            refine X_top (v := vi (M21 10 (M21 0 9))) (congrArg vi (MR.el (MR.putA mr21 (k := 13) (j := (12 * (M5 0 9)) + (M5 10 (M5 0 9))) (z := z21) (by decide)) (k := 10) (by decide) (up_ne (Or.inl (by decide))))) ?_
            refine X_iconst dX12_readEnum_117 (by decide) ?_
            refine X_iaddN dX12_readEnum_118 (hc22.2.2.1 c23).2.2.1 (hc22.2.2.1 c23).2.2.2.1 ?_
            refine X_iastore dX12_readEnum_119 ((MR.ar (MR.putA mr21 (k := 13) (j := (12 * (M5 0 9)) + (M5 10 (M5 0 9))) (z := z21) (by decide)) (k := 10) (by decide)).2.1.trans (by decide)) (hc22.2.2.1 c23).1 (lt_eq (hc22.2.2.1 c23).2.1 (MR.ln (MR.putA mr21 (k := 13) (j := (12 * (M5 0 9)) + (M5 10 (M5 0 9))) (z := z21) (by decide)) (k := 10) (by decide) (by decide))) ?_
            refine X_aload_n dX12_readEnum_120 rfl ?_
            refine X_getfield (ci := 12) (k := 14) (v := vr (a 14)) dX12_readEnum_121 rfl (by decide) kf_RX12_29 (congrArg vr (MR.ar (MR.putA (MR.putA mr21 (k := 13) (j := (12 * (M5 0 9)) + (M5 10 (M5 0 9))) (z := z21) (by decide)) (k := 10) (j := M21 0 9) (z := (M21 10 (M21 0 9)) + 1) (by decide)) (k := 14) (by decide)).1) (MR.putA (MR.putA mr21 (k := 13) (j := (12 * (M5 0 9)) + (M5 10 (M5 0 9))) (z := z21) (by decide)) (k := 10) (j := M21 0 9) (z := (M21 10 (M21 0 9)) + 1) (by decide)).1 ?_
            refine X_aload_n dX12_readEnum_124 rfl ?_
            refine X_getfield (ci := 12) (k := 41) (v := vi (M21 0 41)) dX12_readEnum_125 rfl (by decide) kf_RX12_269 (congrArg vi (MR.in_ (MR.putA (MR.putA mr21 (k := 13) (j := (12 * (M5 0 9)) + (M5 10 (M5 0 9))) (z := z21) (by decide)) (k := 10) (j := M21 0 9) (z := (M21 10 (M21 0 9)) + 1) (by decide)) (k := 41) (by decide) ((up_ne (Or.inl (by decide))).trans (up_ne (Or.inl (by decide)))))) (MR.putA (MR.putA mr21 (k := 13) (j := (12 * (M5 0 9)) + (M5 10 (M5 0 9))) (z := z21) (by decide)) (k := 10) (j := M21 0 9) (z := (M21 10 (M21 0 9)) + 1) (by decide)).1 ?_
            refine X_iconst dX12_readEnum_128 (by decide) ?_
            refine X_iastore dX12_readEnum_129 ((MR.ar (MR.putA (MR.putA mr21 (k := 13) (j := (12 * (M5 0 9)) + (M5 10 (M5 0 9))) (z := z21) (by decide)) (k := 10) (j := M21 0 9) (z := (M21 10 (M21 0 9)) + 1) (by decide)) (k := 14) (by decide)).2.1.trans (by decide)) (hc22.2.2.1 c23).2.2.2.2.1 (lt_eq (hc22.2.2.1 c23).2.2.2.2.2.1 (MR.ln (MR.putA (MR.putA mr21 (k := 13) (j := (12 * (M5 0 9)) + (M5 10 (M5 0 9))) (z := z21) (by decide)) (k := 10) (j := M21 0 9) (z := (M21 10 (M21 0 9)) + 1) (by decide)) (k := 14) (by decide) (by decide))) ?_
            refine X_aload_n dX12_readEnum_130 rfl ?_
            refine X_getfield (ci := 12) (k := 15) (v := vr (a 15)) dX12_readEnum_131 rfl (by decide) kf_RX12_32 (congrArg vr (MR.ar (MR.putA (MR.putA (MR.putA mr21 (k := 13) (j := (12 * (M5 0 9)) + (M5 10 (M5 0 9))) (z := z21) (by decide)) (k := 10) (j := M21 0 9) (z := (M21 10 (M21 0 9)) + 1) (by decide)) (k := 14) (j := M21 0 41) (z := 0) (by decide)) (k := 15) (by decide)).1) (MR.putA (MR.putA (MR.putA mr21 (k := 13) (j := (12 * (M5 0 9)) + (M5 10 (M5 0 9))) (z := z21) (by decide)) (k := 10) (j := M21 0 9) (z := (M21 10 (M21 0 9)) + 1) (by decide)) (k := 14) (j := M21 0 41) (z := 0) (by decide)).1 ?_
            refine X_aload_n dX12_readEnum_134 rfl ?_
            refine X_getfield (ci := 12) (k := 41) (v := vi (M21 0 41)) dX12_readEnum_135 rfl (by decide) kf_RX12_269 (congrArg vi (MR.in_ (MR.putA (MR.putA (MR.putA mr21 (k := 13) (j := (12 * (M5 0 9)) + (M5 10 (M5 0 9))) (z := z21) (by decide)) (k := 10) (j := M21 0 9) (z := (M21 10 (M21 0 9)) + 1) (by decide)) (k := 14) (j := M21 0 41) (z := 0) (by decide)) (k := 41) (by decide) ((up_ne (Or.inl (by decide))).trans ((up_ne (Or.inl (by decide))).trans (up_ne (Or.inl (by decide))))))) (MR.putA (MR.putA (MR.putA mr21 (k := 13) (j := (12 * (M5 0 9)) + (M5 10 (M5 0 9))) (z := z21) (by decide)) (k := 10) (j := M21 0 9) (z := (M21 10 (M21 0 9)) + 1) (by decide)) (k := 14) (j := M21 0 41) (z := 0) (by decide)).1 ?_
            refine X_iconst dX12_readEnum_138 (by decide) ?_
            refine X_iastore dX12_readEnum_139 ((MR.ar (MR.putA (MR.putA (MR.putA mr21 (k := 13) (j := (12 * (M5 0 9)) + (M5 10 (M5 0 9))) (z := z21) (by decide)) (k := 10) (j := M21 0 9) (z := (M21 10 (M21 0 9)) + 1) (by decide)) (k := 14) (j := M21 0 41) (z := 0) (by decide)) (k := 15) (by decide)).2.1.trans (by decide)) (hc22.2.2.1 c23).2.2.2.2.1 (lt_eq (hc22.2.2.1 c23).2.2.2.2.2.1 (MR.ln (MR.putA (MR.putA (MR.putA mr21 (k := 13) (j := (12 * (M5 0 9)) + (M5 10 (M5 0 9))) (z := z21) (by decide)) (k := 10) (j := M21 0 9) (z := (M21 10 (M21 0 9)) + 1) (by decide)) (k := 14) (j := M21 0 41) (z := 0) (by decide)) (k := 15) (by decide) (by decide))) ?_
            refine X_aload_n dX12_readEnum_140 rfl ?_
            refine X_getfield (ci := 12) (k := 16) (v := vr (a 16)) dX12_readEnum_141 rfl (by decide) kf_RX12_35 (congrArg vr (MR.ar (MR.putA (MR.putA (MR.putA (MR.putA mr21 (k := 13) (j := (12 * (M5 0 9)) + (M5 10 (M5 0 9))) (z := z21) (by decide)) (k := 10) (j := M21 0 9) (z := (M21 10 (M21 0 9)) + 1) (by decide)) (k := 14) (j := M21 0 41) (z := 0) (by decide)) (k := 15) (j := M21 0 41) (z := 0) (by decide)) (k := 16) (by decide)).1) (MR.putA (MR.putA (MR.putA (MR.putA mr21 (k := 13) (j := (12 * (M5 0 9)) + (M5 10 (M5 0 9))) (z := z21) (by decide)) (k := 10) (j := M21 0 9) (z := (M21 10 (M21 0 9)) + 1) (by decide)) (k := 14) (j := M21 0 41) (z := 0) (by decide)) (k := 15) (j := M21 0 41) (z := 0) (by decide)).1 ?_
            refine X_aload_n dX12_readEnum_144 rfl ?_
            refine X_getfield (ci := 12) (k := 41) (v := vi (M21 0 41)) dX12_readEnum_145 rfl (by decide) kf_RX12_269 (congrArg vi (MR.in_ (MR.putA (MR.putA (MR.putA (MR.putA mr21 (k := 13) (j := (12 * (M5 0 9)) + (M5 10 (M5 0 9))) (z := z21) (by decide)) (k := 10) (j := M21 0 9) (z := (M21 10 (M21 0 9)) + 1) (by decide)) (k := 14) (j := M21 0 41) (z := 0) (by decide)) (k := 15) (j := M21 0 41) (z := 0) (by decide)) (k := 41) (by decide) ((up_ne (Or.inl (by decide))).trans ((up_ne (Or.inl (by decide))).trans ((up_ne (Or.inl (by decide))).trans (up_ne (Or.inl (by decide)))))))) (MR.putA (MR.putA (MR.putA (MR.putA mr21 (k := 13) (j := (12 * (M5 0 9)) + (M5 10 (M5 0 9))) (z := z21) (by decide)) (k := 10) (j := M21 0 9) (z := (M21 10 (M21 0 9)) + 1) (by decide)) (k := 14) (j := M21 0 41) (z := 0) (by decide)) (k := 15) (j := M21 0 41) (z := 0) (by decide)).1 ?_
            refine X_iconst dX12_readEnum_148 (by decide) ?_
            refine X_iastore dX12_readEnum_149 ((MR.ar (MR.putA (MR.putA (MR.putA (MR.putA mr21 (k := 13) (j := (12 * (M5 0 9)) + (M5 10 (M5 0 9))) (z := z21) (by decide)) (k := 10) (j := M21 0 9) (z := (M21 10 (M21 0 9)) + 1) (by decide)) (k := 14) (j := M21 0 41) (z := 0) (by decide)) (k := 15) (j := M21 0 41) (z := 0) (by decide)) (k := 16) (by decide)).2.1.trans (by decide)) (hc22.2.2.1 c23).2.2.2.2.1 (lt_eq (hc22.2.2.1 c23).2.2.2.2.2.1 (MR.ln (MR.putA (MR.putA (MR.putA (MR.putA mr21 (k := 13) (j := (12 * (M5 0 9)) + (M5 10 (M5 0 9))) (z := z21) (by decide)) (k := 10) (j := M21 0 9) (z := (M21 10 (M21 0 9)) + 1) (by decide)) (k := 14) (j := M21 0 41) (z := 0) (by decide)) (k := 15) (j := M21 0 41) (z := 0) (by decide)) (k := 16) (by decide) (by decide))) ?_
            refine X_aload_n dX12_readEnum_150 rfl ?_
            refine X_getfield (ci := 12) (k := 17) (v := vr (a 17)) dX12_readEnum_151 rfl (by decide) kf_RX12_38 (congrArg vr (MR.ar (MR.putA (MR.putA (MR.putA (MR.putA (MR.putA mr21 (k := 13) (j := (12 * (M5 0 9)) + (M5 10 (M5 0 9))) (z := z21) (by decide)) (k := 10) (j := M21 0 9) (z := (M21 10 (M21 0 9)) + 1) (by decide)) (k := 14) (j := M21 0 41) (z := 0) (by decide)) (k := 15) (j := M21 0 41) (z := 0) (by decide)) (k := 16) (j := M21 0 41) (z := 0) (by decide)) (k := 17) (by decide)).1) (MR.putA (MR.putA (MR.putA (MR.putA (MR.putA mr21 (k := 13) (j := (12 * (M5 0 9)) + (M5 10 (M5 0 9))) (z := z21) (by decide)) (k := 10) (j := M21 0 9) (z := (M21 10 (M21 0 9)) + 1) (by decide)) (k := 14) (j := M21 0 41) (z := 0) (by decide)) (k := 15) (j := M21 0 41) (z := 0) (by decide)) (k := 16) (j := M21 0 41) (z := 0) (by decide)).1 ?_
            refine X_aload_n dX12_readEnum_154 rfl ?_
            refine X_getfield (ci := 12) (k := 41) (v := vi (M21 0 41)) dX12_readEnum_155 rfl (by decide) kf_RX12_269 (congrArg vi (MR.in_ (MR.putA (MR.putA (MR.putA (MR.putA (MR.putA mr21 (k := 13) (j := (12 * (M5 0 9)) + (M5 10 (M5 0 9))) (z := z21) (by decide)) (k := 10) (j := M21 0 9) (z := (M21 10 (M21 0 9)) + 1) (by decide)) (k := 14) (j := M21 0 41) (z := 0) (by decide)) (k := 15) (j := M21 0 41) (z := 0) (by decide)) (k := 16) (j := M21 0 41) (z := 0) (by decide)) (k := 41) (by decide) ((up_ne (Or.inl (by decide))).trans ((up_ne (Or.inl (by decide))).trans ((up_ne (Or.inl (by decide))).trans ((up_ne (Or.inl (by decide))).trans (up_ne (Or.inl (by decide))))))))) (MR.putA (MR.putA (MR.putA (MR.putA (MR.putA mr21 (k := 13) (j := (12 * (M5 0 9)) + (M5 10 (M5 0 9))) (z := z21) (by decide)) (k := 10) (j := M21 0 9) (z := (M21 10 (M21 0 9)) + 1) (by decide)) (k := 14) (j := M21 0 41) (z := 0) (by decide)) (k := 15) (j := M21 0 41) (z := 0) (by decide)) (k := 16) (j := M21 0 41) (z := 0) (by decide)).1 ?_
            refine X_iconst dX12_readEnum_158 (by decide) ?_
            refine X_iastore dX12_readEnum_159 ((MR.ar (MR.putA (MR.putA (MR.putA (MR.putA (MR.putA mr21 (k := 13) (j := (12 * (M5 0 9)) + (M5 10 (M5 0 9))) (z := z21) (by decide)) (k := 10) (j := M21 0 9) (z := (M21 10 (M21 0 9)) + 1) (by decide)) (k := 14) (j := M21 0 41) (z := 0) (by decide)) (k := 15) (j := M21 0 41) (z := 0) (by decide)) (k := 16) (j := M21 0 41) (z := 0) (by decide)) (k := 17) (by decide)).2.1.trans (by decide)) (hc22.2.2.1 c23).2.2.2.2.1 (lt_eq (hc22.2.2.1 c23).2.2.2.2.2.1 (MR.ln (MR.putA (MR.putA (MR.putA (MR.putA (MR.putA mr21 (k := 13) (j := (12 * (M5 0 9)) + (M5 10 (M5 0 9))) (z := z21) (by decide)) (k := 10) (j := M21 0 9) (z := (M21 10 (M21 0 9)) + 1) (by decide)) (k := 14) (j := M21 0 41) (z := 0) (by decide)) (k := 15) (j := M21 0 41) (z := 0) (by decide)) (k := 16) (j := M21 0 41) (z := 0) (by decide)) (k := 17) (by decide) (by decide))) ?_
            refine X_aload_n dX12_readEnum_160 rfl ?_
            refine X_getfield (ci := 12) (k := 18) (v := vr (a 18)) dX12_readEnum_161 rfl (by decide) kf_RX12_41 (congrArg vr (MR.ar (MR.putA (MR.putA (MR.putA (MR.putA (MR.putA (MR.putA mr21 (k := 13) (j := (12 * (M5 0 9)) + (M5 10 (M5 0 9))) (z := z21) (by decide)) (k := 10) (j := M21 0 9) (z := (M21 10 (M21 0 9)) + 1) (by decide)) (k := 14) (j := M21 0 41) (z := 0) (by decide)) (k := 15) (j := M21 0 41) (z := 0) (by decide)) (k := 16) (j := M21 0 41) (z := 0) (by decide)) (k := 17) (j := M21 0 41) (z := 0) (by decide)) (k := 18) (by decide)).1) (MR.putA (MR.putA (MR.putA (MR.putA (MR.putA (MR.putA mr21 (k := 13) (j := (12 * (M5 0 9)) + (M5 10 (M5 0 9))) (z := z21) (by decide)) (k := 10) (j := M21 0 9) (z := (M21 10 (M21 0 9)) + 1) (by decide)) (k := 14) (j := M21 0 41) (z := 0) (by decide)) (k := 15) (j := M21 0 41) (z := 0) (by decide)) (k := 16) (j := M21 0 41) (z := 0) (by decide)) (k := 17) (j := M21 0 41) (z := 0) (by decide)).1 ?_
            refine X_aload_n dX12_readEnum_164 rfl ?_
            refine X_getfield (ci := 12) (k := 41) (v := vi (M21 0 41)) dX12_readEnum_165 rfl (by decide) kf_RX12_269 (congrArg vi (MR.in_ (MR.putA (MR.putA (MR.putA (MR.putA (MR.putA (MR.putA mr21 (k := 13) (j := (12 * (M5 0 9)) + (M5 10 (M5 0 9))) (z := z21) (by decide)) (k := 10) (j := M21 0 9) (z := (M21 10 (M21 0 9)) + 1) (by decide)) (k := 14) (j := M21 0 41) (z := 0) (by decide)) (k := 15) (j := M21 0 41) (z := 0) (by decide)) (k := 16) (j := M21 0 41) (z := 0) (by decide)) (k := 17) (j := M21 0 41) (z := 0) (by decide)) (k := 41) (by decide) ((up_ne (Or.inl (by decide))).trans ((up_ne (Or.inl (by decide))).trans ((up_ne (Or.inl (by decide))).trans ((up_ne (Or.inl (by decide))).trans ((up_ne (Or.inl (by decide))).trans (up_ne (Or.inl (by decide)))))))))) (MR.putA (MR.putA (MR.putA (MR.putA (MR.putA (MR.putA mr21 (k := 13) (j := (12 * (M5 0 9)) + (M5 10 (M5 0 9))) (z := z21) (by decide)) (k := 10) (j := M21 0 9) (z := (M21 10 (M21 0 9)) + 1) (by decide)) (k := 14) (j := M21 0 41) (z := 0) (by decide)) (k := 15) (j := M21 0 41) (z := 0) (by decide)) (k := 16) (j := M21 0 41) (z := 0) (by decide)) (k := 17) (j := M21 0 41) (z := 0) (by decide)).1 ?_
            refine X_iconst dX12_readEnum_168 (by decide) ?_
            refine X_iastore dX12_readEnum_169 ((MR.ar (MR.putA (MR.putA (MR.putA (MR.putA (MR.putA (MR.putA mr21 (k := 13) (j := (12 * (M5 0 9)) + (M5 10 (M5 0 9))) (z := z21) (by decide)) (k := 10) (j := M21 0 9) (z := (M21 10 (M21 0 9)) + 1) (by decide)) (k := 14) (j := M21 0 41) (z := 0) (by decide)) (k := 15) (j := M21 0 41) (z := 0) (by decide)) (k := 16) (j := M21 0 41) (z := 0) (by decide)) (k := 17) (j := M21 0 41) (z := 0) (by decide)) (k := 18) (by decide)).2.1.trans (by decide)) (hc22.2.2.1 c23).2.2.2.2.1 (lt_eq (hc22.2.2.1 c23).2.2.2.2.2.1 (MR.ln (MR.putA (MR.putA (MR.putA (MR.putA (MR.putA (MR.putA mr21 (k := 13) (j := (12 * (M5 0 9)) + (M5 10 (M5 0 9))) (z := z21) (by decide)) (k := 10) (j := M21 0 9) (z := (M21 10 (M21 0 9)) + 1) (by decide)) (k := 14) (j := M21 0 41) (z := 0) (by decide)) (k := 15) (j := M21 0 41) (z := 0) (by decide)) (k := 16) (j := M21 0 41) (z := 0) (by decide)) (k := 17) (j := M21 0 41) (z := 0) (by decide)) (k := 18) (by decide) (by decide))) ?_
            refine X_iconst dX12_readEnum_170 (by decide) ?_
            refine X_istore_n dX12_readEnum_171 (by decide) rfl ?_
            exact hrc n_readEnum_172 [0] _ _ (hc22.2.2.1 c23).2.2.2.2.2.2 (MR.putA (MR.putA (MR.putA (MR.putA (MR.putA (MR.putA (MR.putA mr21 (k := 13) (j := (12 * (M5 0 9)) + (M5 10 (M5 0 9))) (z := z21) (by decide)) (k := 10) (j := M21 0 9) (z := (M21 10 (M21 0 9)) + 1) (by decide)) (k := 14) (j := M21 0 41) (z := 0) (by decide)) (k := 15) (j := M21 0 41) (z := 0) (by decide)) (k := 16) (j := M21 0 41) (z := 0) (by decide)) (k := 17) (j := M21 0 41) (z := 0) (by decide)) (k := 18) (j := M21 0 41) (z := 0) (by decide)) (MF.putA (MF.putA (MF.putA (MF.putA (MF.putA (MF.putA (MF.putA mf21 (k := 13) (j := (12 * (M5 0 9)) + (M5 10 (M5 0 9))) (z := z21) (by decide)) (k := 10) (j := M21 0 9) (z := (M21 10 (M21 0 9)) + 1) (by decide)) (k := 14) (j := M21 0 41) (z := 0) (by decide)) (k := 15) (j := M21 0 41) (z := 0) (by decide)) (k := 16) (j := M21 0 41) (z := 0) (by decide)) (k := 17) (j := M21 0 41) (z := 0) (by decide)) (k := 18) (j := M21 0 41) (z := 0) (by decide))
          · exact X_ret (z := 0) dX12_readEnum_106 rfl (fun _ => trivial) ⟨rfl, _, (hc22.2.2.2 c23), (MR.putA mr21 (k := 13) (j := (12 * (M5 0 9)) + (M5 10 (M5 0 9))) (z := z21) (by decide)), (MF.putA mf21 (k := 13) (j := (12 * (M5 0 9)) + (M5 10 (M5 0 9))) (z := z21) (by decide))⟩
    · refine X_aload_n dX12_readEnum_30 rfl ?_
      refine X_iconst dX12_readEnum_31 (by decide) ?_
      refine X_invV (ci := 12) (as := [vi 5]) (st := []) okX12_fault dX12_readEnum_32 km_RX12_288 rfl rfl (Nat.le_of_ble_eq_true rfl) rfl rfl mr1.1 (CT.of d 0 0 (hcl n_fault_0 rfl [5] _ _ _ ((hc2.1 c3).2.2.2 c4) mr1) (Nat.le_refl _) (Nat.zero_le _) (Nat.zero_le _) (fun z24 S24 V24 hq24 => ?_))
      obtain ⟨rfl, M24, hc25, mr24, hf24⟩ := hq24
      have mf24 := MF.trans mf1 hf24
      refine X_istore_n dX12_readEnum_35 (by decide) rfl ?_
      exact X_ret (z := 0) dX12_readEnum_36 rfl (fun _ => trivial) ⟨rfl, _, hc25, mr24, mf24⟩
  · refine X_aload_n dX12_readEnum_9 rfl ?_
    refine X_iconst dX12_readEnum_10 (by decide) ?_
    refine X_invV (ci := 12) (as := [vi 2]) (st := []) okX12_fault dX12_readEnum_11 km_RX12_288 rfl rfl (Nat.le_of_ble_eq_true rfl) rfl rfl mr1.1 (CT.of d 0 0 (hcl n_fault_0 rfl [2] _ _ _ (hc2.2 c3) mr1) (Nat.le_refl _) (Nat.zero_le _) (Nat.zero_le _) (fun z26 S26 V26 hq26 => ?_))
    obtain ⟨rfl, M26, hc27, mr26, hf26⟩ := hq26
    have mf26 := MF.trans mf1 hf26
    refine X_istore_n dX12_readEnum_14 (by decide) rfl ?_
    exact X_ret (z := 0) dX12_readEnum_15 rfl (fun _ => trivial) ⟨rfl, _, hc27, mr26, mf26⟩
def B_readEnum_172 (rc : MP) (cl : MC) (Q : Int → Mem → Prop) (d : Nat) (x1 : Int) (M : Mem) : Prop := (4 ≤ x1 → cl n_next_0 [] M (fun z2 M2 => cl n_sign_0 [123] M2 (fun z4 M4 => cl n_readConstant_0 [] M4 (fun z6 M6 => rc n_readEnum_211 [x1] M6)))) ∧ (¬ (4 ≤ x1) → -2147483648 ≤ 4 * (M 0 41) ∧ 4 * (M 0 41) ≤ 2147483647 ∧ -2147483648 ≤ (4 * (M 0 41)) + x1 ∧ (4 * (M 0 41)) + x1 ≤ 2147483647 ∧ 0 ≤ ((4 * (M 0 41)) + x1) ∧ ((4 * (M 0 41)) + x1) < 480 ∧ -2147483648 ≤ x1 + 1 ∧ x1 + 1 ≤ 2147483647 ∧ rc n_readEnum_172 [x1 + 1] (up M 19 ((4 * (M 0 41)) + x1) (-1)))
set_option maxRecDepth 10000 in
theorem s_readEnum_172 {l : Launch} {G : GT} {m : Int} {a : Int → Int} {d mc ms : Nat} {S : Sh} {Q : Int → Mem → Prop} {rc : MP} {cl : MC} {V0 V M : Mem} {x1 : Int} (hrc : RCok l G m a S V0 Q d mc ms rc) (hcl : CLok l G m a S d cl) (mr : MR m a S V M) (mf : MF m a V0 V) (hB : B_readEnum_172 rc cl Q d x1 M) : XJ l G bX12_readEnum (Qm m a S V0 Q) (d + 1) 172 [vr m, vi x1] [] S V mc ms := by
  unfold B_readEnum_172 at hB
  refine X_iload_n dX12_readEnum_172 rfl ?_
  refine X_iconst dX12_readEnum_173 (by decide) ?_
  refine X_icmp_ge dX12_readEnum_174 (tgt := 197) rfl (fun c1 => ?_) (fun c1 => ?_)
  · refine X_aload_n dX12_readEnum_197 rfl ?_
    refine X_invV (ci := 12) (as := []) (st := []) okX12_next dX12_readEnum_198 km_RX12_285 rfl rfl (Nat.le_of_ble_eq_true rfl) rfl rfl mr.1 (CT.of d 0 0 (hcl n_next_0 rfl [] _ _ _ (hB.1 c1) mr) (Nat.le_refl _) (Nat.zero_le _) (Nat.zero_le _) (fun z2 S2 V2 hq2 => ?_))
    obtain ⟨rfl, M2, hc3, mr2, hf2⟩ := hq2
    have mf2 := MF.trans mf hf2
    refine X_aload_n dX12_readEnum_201 rfl ?_
    refine X_bipush dX12_readEnum_202 (by decide) (by decide) ?_
    refine X_invV (ci := 12) (as := [vi 123]) (st := []) okX12_sign dX12_readEnum_204 km_RX12_318 rfl rfl (Nat.le_of_ble_eq_true rfl) rfl rfl mr2.1 (CT.of d 0 0 (hcl n_sign_0 rfl [123] _ _ _ hc3 mr2) (Nat.le_refl _) (Nat.zero_le _) (Nat.zero_le _) (fun z4 S4 V4 hq4 => ?_))
    obtain ⟨rfl, M4, hc5, mr4, hf4⟩ := hq4
    have mf4 := MF.trans mf2 hf4
    refine X_aload_n dX12_readEnum_207 rfl ?_
    refine X_invV (ci := 12) (as := []) (st := []) okX12_readConstant dX12_readEnum_208 km_RX12_322 rfl rfl (Nat.le_of_ble_eq_true rfl) rfl rfl mr4.1 (CT.of d 0 0 (hcl n_readConstant_0 rfl [] _ _ _ hc5 mr4) (Nat.le_refl _) (Nat.zero_le _) (Nat.zero_le _) (fun z6 S6 V6 hq6 => ?_))
    obtain ⟨rfl, M6, hc7, mr6, hf6⟩ := hq6
    have mf6 := MF.trans mf4 hf6
    exact hrc n_readEnum_211 [x1] _ _ hc7 mr6 mf6
  · refine X_aload_n dX12_readEnum_177 rfl ?_
    refine X_getfield (ci := 12) (k := 19) (v := vr (a 19)) dX12_readEnum_178 rfl (by decide) kf_RX12_44 (congrArg vr (MR.ar mr (k := 19) (by decide)).1) mr.1 ?_
    refine X_iconst dX12_readEnum_181 (by decide) ?_
    refine X_aload_n dX12_readEnum_182 rfl ?_
    refine X_getfield (ci := 12) (k := 41) (v := vi (M 0 41)) dX12_readEnum_183 rfl (by decide) kf_RX12_269 (congrArg vi (MR.in_ mr (k := 41) (by decide) rfl)) mr.1 ?_
    refine X_imulN dX12_readEnum_186 (hB.2 c1).1 (hB.2 c1).2.1 ?_
    refine X_iload_n dX12_readEnum_187 rfl ?_
    refine X_iaddN dX12_readEnum_188 (hB.2 c1).2.2.1 (hB.2 c1).2.2.2.1 ?_
    refine X_iconst dX12_readEnum_189 (by decide) ?_
    refine X_iastore dX12_readEnum_190 ((MR.ar mr (k := 19) (by decide)).2.1.trans (by decide)) (hB.2 c1).2.2.2.2.1 (lt_eq (hB.2 c1).2.2.2.2.2.1 (MR.ln mr (k := 19) (by decide) (by decide))) ?_
    refine X_iincN dX12_readEnum_191 rfl (by decide) rfl (e := x1 + 1) rfl (hB.2 c1).2.2.2.2.2.2.1 (hB.2 c1).2.2.2.2.2.2.2.1 ?_
    refine X_goto dX12_readEnum_194 (tgt := 172) rfl ?_
    exact hrc n_readEnum_172 [x1 + 1] _ _ (hB.2 c1).2.2.2.2.2.2.2.2 (MR.putA mr (k := 19) (j := (4 * (M 0 41)) + x1) (z := (-1)) (by decide)) (MF.putA mf (k := 19) (j := (4 * (M 0 41)) + x1) (z := (-1)) (by decide))
def B_readEnum_211 (rc : MP) (cl : MC) (Q : Int → Mem → Prop) (d : Nat) (x1 : Int) (M : Mem) : Prop := ((M 0 46) ≠ 0 → cl n_sign_0 [59] M (fun z2 M2 => rc n_readEnum_244 [x1] M2)) ∧ (¬ ((M 0 46) ≠ 0) → cl n_isSign_0 [44] M (fun z4 M4 => (z4 = 0 → cl n_sign_0 [59] M4 (fun z7 M7 => rc n_readEnum_244 [x1] M7)) ∧ (¬ (z4 = 0) → cl n_next_0 [] M4 (fun z9 M9 => cl n_readConstant_0 [] M9 (fun z11 M11 => rc n_readEnum_211 [x1] M11)))))
set_option maxRecDepth 10000 in
theorem s_readEnum_211 {l : Launch} {G : GT} {m : Int} {a : Int → Int} {d mc ms : Nat} {S : Sh} {Q : Int → Mem → Prop} {rc : MP} {cl : MC} {V0 V M : Mem} {x1 : Int} (hrc : RCok l G m a S V0 Q d mc ms rc) (hcl : CLok l G m a S d cl) (mr : MR m a S V M) (mf : MF m a V0 V) (hB : B_readEnum_211 rc cl Q d x1 M) : XJ l G bX12_readEnum (Qm m a S V0 Q) (d + 1) 211 [vr m, vi x1] [] S V mc ms := by
  unfold B_readEnum_211 at hB
  refine X_aload_n dX12_readEnum_211 rfl ?_
  refine X_getfield (ci := 12) (k := 46) (v := vi (M 0 46)) dX12_readEnum_212 rfl (by decide) kf_RX12_275 (congrArg vi (MR.in_ mr (k := 46) (by decide) rfl)) mr.1 ?_
  refine X_if_ne dX12_readEnum_215 (tgt := 238) rfl (fun c1 => ?_) (fun c1 => ?_)
  · refine X_aload_n dX12_readEnum_238 rfl ?_
    refine X_bipush dX12_readEnum_239 (by decide) (by decide) ?_
    refine X_invV (ci := 12) (as := [vi 59]) (st := []) okX12_sign dX12_readEnum_241 km_RX12_318 rfl rfl (Nat.le_of_ble_eq_true rfl) rfl rfl mr.1 (CT.of d 0 0 (hcl n_sign_0 rfl [59] _ _ _ (hB.1 c1) mr) (Nat.le_refl _) (Nat.zero_le _) (Nat.zero_le _) (fun z2 S2 V2 hq2 => ?_))
    obtain ⟨rfl, M2, hc3, mr2, hf2⟩ := hq2
    have mf2 := MF.trans mf hf2
    exact hrc n_readEnum_244 [x1] _ _ hc3 mr2 mf2
  · refine X_aload_n dX12_readEnum_218 rfl ?_
    refine X_bipush dX12_readEnum_219 (by decide) (by decide) ?_
    refine X_invV (ci := 12) (as := [vi 44]) (st := []) okX12_isSign dX12_readEnum_221 km_RX12_281 rfl rfl (Nat.le_of_ble_eq_true rfl) rfl rfl mr.1 (CT.of d 0 0 (hcl n_isSign_0 rfl [44] _ _ _ (hB.2 c1) mr) (Nat.le_refl _) (Nat.zero_le _) (Nat.zero_le _) (fun z4 S4 V4 hq4 => ?_))
    obtain ⟨rfl, M4, hc5, mr4, hf4⟩ := hq4
    have mf4 := MF.trans mf hf4
    refine X_if_eq dX12_readEnum_224 (tgt := 238) rfl (fun c6 => ?_) (fun c6 => ?_)
    · refine X_aload_n dX12_readEnum_238 rfl ?_
      refine X_bipush dX12_readEnum_239 (by decide) (by decide) ?_
      refine X_invV (ci := 12) (as := [vi 59]) (st := []) okX12_sign dX12_readEnum_241 km_RX12_318 rfl rfl (Nat.le_of_ble_eq_true rfl) rfl rfl mr4.1 (CT.of d 0 0 (hcl n_sign_0 rfl [59] _ _ _ (hc5.1 c6) mr4) (Nat.le_refl _) (Nat.zero_le _) (Nat.zero_le _) (fun z7 S7 V7 hq7 => ?_))
      obtain ⟨rfl, M7, hc8, mr7, hf7⟩ := hq7
      have mf7 := MF.trans mf4 hf7
      exact hrc n_readEnum_244 [x1] _ _ hc8 mr7 mf7
    · refine X_aload_n dX12_readEnum_227 rfl ?_
      refine X_invV (ci := 12) (as := []) (st := []) okX12_next dX12_readEnum_228 km_RX12_285 rfl rfl (Nat.le_of_ble_eq_true rfl) rfl rfl mr4.1 (CT.of d 0 0 (hcl n_next_0 rfl [] _ _ _ (hc5.2 c6) mr4) (Nat.le_refl _) (Nat.zero_le _) (Nat.zero_le _) (fun z9 S9 V9 hq9 => ?_))
      obtain ⟨rfl, M9, hc10, mr9, hf9⟩ := hq9
      have mf9 := MF.trans mf4 hf9
      refine X_aload_n dX12_readEnum_231 rfl ?_
      refine X_invV (ci := 12) (as := []) (st := []) okX12_readConstant dX12_readEnum_232 km_RX12_322 rfl rfl (Nat.le_of_ble_eq_true rfl) rfl rfl mr9.1 (CT.of d 0 0 (hcl n_readConstant_0 rfl [] _ _ _ hc10 mr9) (Nat.le_refl _) (Nat.zero_le _) (Nat.zero_le _) (fun z11 S11 V11 hq11 => ?_))
      obtain ⟨rfl, M11, hc12, mr11, hf11⟩ := hq11
      have mf11 := MF.trans mf9 hf11
      refine X_goto dX12_readEnum_235 (tgt := 211) rfl ?_
      exact hrc n_readEnum_211 [x1] _ _ hc12 mr11 mf11
def B_readEnum_244 (rc : MP) (cl : MC) (Q : Int → Mem → Prop) (d : Nat) (x1 : Int) (M : Mem) : Prop := ((M 0 46) ≠ 0 → cl n_sign_0 [125] M (fun z2 M2 => Q 0 M2)) ∧ (¬ ((M 0 46) ≠ 0) → cl n_isSign_0 [125] M (fun z4 M4 => (z4 ≠ 0 → cl n_sign_0 [125] M4 (fun z7 M7 => Q 0 M7)) ∧ (¬ (z4 ≠ 0) → cl n_readMember_0 [] M4 (fun z9 M9 => rc n_readEnum_244 [x1] M9))))
set_option maxRecDepth 10000 in
theorem s_readEnum_244 {l : Launch} {G : GT} {m : Int} {a : Int → Int} {d mc ms : Nat} {S : Sh} {Q : Int → Mem → Prop} {rc : MP} {cl : MC} {V0 V M : Mem} {x1 : Int} (hrc : RCok l G m a S V0 Q d mc ms rc) (hcl : CLok l G m a S d cl) (mr : MR m a S V M) (mf : MF m a V0 V) (hB : B_readEnum_244 rc cl Q d x1 M) : XJ l G bX12_readEnum (Qm m a S V0 Q) (d + 1) 244 [vr m, vi x1] [] S V mc ms := by
  unfold B_readEnum_244 at hB
  refine X_aload_n dX12_readEnum_244 rfl ?_
  refine X_getfield (ci := 12) (k := 46) (v := vi (M 0 46)) dX12_readEnum_245 rfl (by decide) kf_RX12_275 (congrArg vi (MR.in_ mr (k := 46) (by decide) rfl)) mr.1 ?_
  refine X_if_ne dX12_readEnum_248 (tgt := 267) rfl (fun c1 => ?_) (fun c1 => ?_)
  · refine X_aload_n dX12_readEnum_267 rfl ?_
    refine X_bipush dX12_readEnum_268 (by decide) (by decide) ?_
    refine X_invV (ci := 12) (as := [vi 125]) (st := []) okX12_sign dX12_readEnum_270 km_RX12_318 rfl rfl (Nat.le_of_ble_eq_true rfl) rfl rfl mr.1 (CT.of d 0 0 (hcl n_sign_0 rfl [125] _ _ _ (hB.1 c1) mr) (Nat.le_refl _) (Nat.zero_le _) (Nat.zero_le _) (fun z2 S2 V2 hq2 => ?_))
    obtain ⟨rfl, M2, hc3, mr2, hf2⟩ := hq2
    have mf2 := MF.trans mf hf2
    exact X_ret (z := 0) dX12_readEnum_273 rfl (fun _ => trivial) ⟨rfl, _, hc3, mr2, mf2⟩
  · refine X_aload_n dX12_readEnum_251 rfl ?_
    refine X_bipush dX12_readEnum_252 (by decide) (by decide) ?_
    refine X_invV (ci := 12) (as := [vi 125]) (st := []) okX12_isSign dX12_readEnum_254 km_RX12_281 rfl rfl (Nat.le_of_ble_eq_true rfl) rfl rfl mr.1 (CT.of d 0 0 (hcl n_isSign_0 rfl [125] _ _ _ (hB.2 c1) mr) (Nat.le_refl _) (Nat.zero_le _) (Nat.zero_le _) (fun z4 S4 V4 hq4 => ?_))
    obtain ⟨rfl, M4, hc5, mr4, hf4⟩ := hq4
    have mf4 := MF.trans mf hf4
    refine X_if_ne dX12_readEnum_257 (tgt := 267) rfl (fun c6 => ?_) (fun c6 => ?_)
    · refine X_aload_n dX12_readEnum_267 rfl ?_
      refine X_bipush dX12_readEnum_268 (by decide) (by decide) ?_
      refine X_invV (ci := 12) (as := [vi 125]) (st := []) okX12_sign dX12_readEnum_270 km_RX12_318 rfl rfl (Nat.le_of_ble_eq_true rfl) rfl rfl mr4.1 (CT.of d 0 0 (hcl n_sign_0 rfl [125] _ _ _ (hc5.1 c6) mr4) (Nat.le_refl _) (Nat.zero_le _) (Nat.zero_le _) (fun z7 S7 V7 hq7 => ?_))
      obtain ⟨rfl, M7, hc8, mr7, hf7⟩ := hq7
      have mf7 := MF.trans mf4 hf7
      exact X_ret (z := 0) dX12_readEnum_273 rfl (fun _ => trivial) ⟨rfl, _, hc8, mr7, mf7⟩
    · refine X_aload_n dX12_readEnum_260 rfl ?_
      refine X_invV (ci := 12) (as := []) (st := []) okX12_readMember dX12_readEnum_261 km_RX12_325 rfl rfl (Nat.le_of_ble_eq_true rfl) rfl rfl mr4.1 (CT.of d 0 0 (hcl n_readMember_0 rfl [] _ _ _ (hc5.2 c6) mr4) (Nat.le_refl _) (Nat.zero_le _) (Nat.zero_le _) (fun z9 S9 V9 hq9 => ?_))
      obtain ⟨rfl, M9, hc10, mr9, hf9⟩ := hq9
      have mf9 := MF.trans mf4 hf9
      refine X_goto dX12_readEnum_264 (tgt := 244) rfl ?_
      exact hrc n_readEnum_244 [x1] _ _ hc10 mr9 mf9
def B_readConstant_0 (rc : MP) (cl : MC) (Q : Int → Mem → Prop) (d : Nat) (M : Mem) : Prop := ((M 0 46) ≤ 0 → -2147483648 ≤ 24 * (M 0 41) ∧ 24 * (M 0 41) ≤ 2147483647 ∧ 0 ≤ (M 0 41) ∧ (M 0 41) < 120 ∧ -2147483648 ≤ (24 * (M 0 41)) + (M 14 (M 0 41)) ∧ (24 * (M 0 41)) + (M 14 (M 0 41)) ≤ 2147483647 ∧ cl n_tells_0 [] M (fun z2 M2 => cl n_newName_0 [z2] M2 (fun z4 M4 => ((M4 0 46) ≤ 0 → 0 ≤ (M4 0 41) ∧ (M4 0 41) < 120 ∧ ((M4 14 (M4 0 41)) ≠ 24 → 0 ≤ ((24 * (M 0 41)) + (M 14 (M 0 41))) ∧ ((24 * (M 0 41)) + (M 14 (M 0 41))) < 2880 ∧ -2147483648 ≤ (M4 14 (M4 0 41)) + 1 ∧ (M4 14 (M4 0 41)) + 1 ≤ 2147483647 ∧ rc n_readConstant_93 [(24 * (M 0 41)) + (M 14 (M 0 41)), z4, 0] (up (up (up M4 20 ((24 * (M 0 41)) + (M 14 (M 0 41))) z4) 14 (M4 0 41) ((M4 14 (M4 0 41)) + 1)) 21 ((24 * (M 0 41)) + (M 14 (M 0 41))) (-1))) ∧ (¬ ((M4 14 (M4 0 41)) ≠ 24) → cl n_fault_0 [5] M4 (fun z8 M8 => Q 0 M8))) ∧ (¬ ((M4 0 46) ≤ 0) → Q 0 M4)))) ∧ (¬ ((M 0 46) ≤ 0) → Q 0 M)
set_option maxRecDepth 10000 in
theorem s_readConstant_0 {l : Launch} {G : GT} {m : Int} {a : Int → Int} {d mc ms : Nat} {S : Sh} {Q : Int → Mem → Prop} {rc : MP} {cl : MC} {V0 V M : Mem} (hrc : RCok l G m a S V0 Q d mc ms rc) (hcl : CLok l G m a S d cl) (mr : MR m a S V M) (mf : MF m a V0 V) (hB : B_readConstant_0 rc cl Q d  M) : XJ l G bX12_readConstant (Qm m a S V0 Q) (d + 1) 0 [vr m, vu, vu, vu] [] S V mc ms := by
  unfold B_readConstant_0 at hB
  refine X_aload_n dX12_readConstant_0 rfl ?_
  refine X_getfield (ci := 12) (k := 46) (v := vi (M 0 46)) dX12_readConstant_1 rfl (by decide) kf_RX12_275 (congrArg vi (MR.in_ mr (k := 46) (by decide) rfl)) mr.1 ?_
  refine X_if_le dX12_readConstant_4 (tgt := 8) rfl (fun c1 => ?_) (fun c1 => ?_)
  · refine X_bipush dX12_readConstant_8 (by decide) (by decide) ?_
    refine X_aload_n dX12_readConstant_10 rfl ?_
    refine X_getfield (ci := 12) (k := 41) (v := vi (M 0 41)) dX12_readConstant_11 rfl (by decide) kf_RX12_269 (congrArg vi (MR.in_ mr (k := 41) (by decide) rfl)) mr.1 ?_
    refine X_imulN dX12_readConstant_14 (hB.1 c1).1 (hB.1 c1).2.1 ?_
    refine X_aload_n dX12_readConstant_15 rfl ?_
    refine X_getfield (ci := 12) (k := 14) (v := vr (a 14)) dX12_readConstant_16 rfl (by decide) kf_RX12_29 (congrArg vr (MR.ar mr (k := 14) (by decide)).1) mr.1 ?_
    refine X_aload_n dX12_readConstant_19 rfl ?_
    refine X_getfield (ci := 12) (k := 41) (v := vi (M 0 41)) dX12_readConstant_20 rfl (by decide) kf_RX12_269 (congrArg vi (MR.in_ mr (k := 41) (by decide) rfl)) mr.1 ?_
    refine X_iaload dX12_readConstant_23 ((MR.ar mr (k := 14) (by decide)).2.1.trans (by decide)) (hB.1 c1).2.2.1 (lt_eq (hB.1 c1).2.2.2.1 (MR.ln mr (k := 14) (by decide) (by decide))) ?_
    refine X_top (v := vi (M 14 (M 0 41))) (congrArg vi (MR.el mr (k := 14) (by decide) rfl)) ?_
    refine X_iaddN dX12_readConstant_24 (hB.1 c1).2.2.2.2.1 (hB.1 c1).2.2.2.2.2.1 ?_
    refine X_istore_n dX12_readConstant_25 (by decide) rfl ?_
    refine X_aload_n dX12_readConstant_26 rfl ?_
    refine X_aload_n dX12_readConstant_27 rfl ?_
    refine X_invV (ci := 12) (as := []) (st := [vr m]) okX12_tells dX12_readConstant_28 km_RX12_328 rfl rfl (Nat.le_of_ble_eq_true rfl) rfl rfl mr.1 (CT.of d 0 0 (hcl n_tells_0 rfl [] _ _ _ (hB.1 c1).2.2.2.2.2.2 mr) (Nat.le_refl _) (Nat.zero_le _) (Nat.zero_le _) (fun z2 S2 V2 hq2 => ?_))
    obtain ⟨rfl, M2, hc3, mr2, hf2⟩ := hq2
    have mf2 := MF.trans mf hf2
    refine X_invV (ci := 12) (as := [vi z2]) (st := []) okX12_newName dX12_readConstant_31 km_RX12_314 rfl rfl (Nat.le_of_ble_eq_true rfl) rfl rfl mr2.1 (CT.of d 0 0 (hcl n_newName_0 rfl [z2] _ _ _ hc3 mr2) (Nat.le_refl _) (Nat.zero_le _) (Nat.zero_le _) (fun z4 S4 V4 hq4 => ?_))
    obtain ⟨rfl, M4, hc5, mr4, hf4⟩ := hq4
    have mf4 := MF.trans mf2 hf4
    refine X_istore_n dX12_readConstant_34 (by decide) rfl ?_
    refine X_aload_n dX12_readConstant_35 rfl ?_
    refine X_getfield (ci := 12) (k := 46) (v := vi (M4 0 46)) dX12_readConstant_36 rfl (by decide) kf_RX12_275 (congrArg vi (MR.in_ mr4 (k := 46) (by decide) rfl)) mr4.1 ?_
    refine X_if_le dX12_readConstant_39 (tgt := 43) rfl (fun c6 => ?_) (fun c6 => ?_)
    · refine X_aload_n dX12_readConstant_43 rfl ?_
      refine X_getfield (ci := 12) (k := 14) (v := vr (a 14)) dX12_readConstant_44 rfl (by decide) kf_RX12_29 (congrArg vr (MR.ar mr4 (k := 14) (by decide)).1) mr4.1 ?_
      refine X_aload_n dX12_readConstant_47 rfl ?_
      refine X_getfield (ci := 12) (k := 41) (v := vi (M4 0 41)) dX12_readConstant_48 rfl (by decide) kf_RX12_269 (congrArg vi (MR.in_ mr4 (k := 41) (by decide) rfl)) mr4.1 ?_
      refine X_iaload dX12_readConstant_51 ((MR.ar mr4 (k := 14) (by decide)).2.1.trans (by decide)) (hc5.1 c6).1 (lt_eq (hc5.1 c6).2.1 (MR.ln mr4 (k := 14) (by decide) (by decide))) ?_
      refine X_top (v := vi (M4 14 (M4 0 41))) (congrArg vi (MR.el mr4 (k := 14) (by decide) rfl)) ?_
      refine X_bipush dX12_readConstant_52 (by decide) (by decide) ?_
      refine X_icmp_ne dX12_readConstant_54 (tgt := 64) rfl (fun c7 => ?_) (fun c7 => ?_)
      · refine X_aload_n dX12_readConstant_64 rfl ?_
        refine X_getfield (ci := 12) (k := 20) (v := vr (a 20)) dX12_readConstant_65 rfl (by decide) kf_RX12_47 (congrArg vr (MR.ar mr4 (k := 20) (by decide)).1) mr4.1 ?_
        refine X_iload_n dX12_readConstant_68 rfl ?_
        refine X_iload_n dX12_readConstant_69 rfl ?_
        refine X_iastore dX12_readConstant_70 ((MR.ar mr4 (k := 20) (by decide)).2.1.trans (by decide)) ((hc5.1 c6).2.2.1 c7).1 (lt_eq ((hc5.1 c6).2.2.1 c7).2.1 (MR.ln mr4 (k := 20) (by decide) (by decide))) ?_
        refine X_aload_n dX12_readConstant_71 rfl ?_
        refine X_getfield (ci := 12) (k := 14) (v := vr (a 14)) dX12_readConstant_72 rfl (by decide) kf_RX12_29 (congrArg vr (MR.ar (MR.putA mr4 (k := 20) (j := (24 * (M 0 41)) + (M 14 (M 0 41))) (z := z4) (by decide)) (k := 14) (by decide)).1) (MR.putA mr4 (k := 20) (j := (24 * (M 0 41)) + (M 14 (M 0 41))) (z := z4) (by decide)).1 ?_
        refine X_aload_n dX12_readConstant_75 rfl ?_
        refine X_getfield (ci := 12) (k := 41) (v := vi (M4 0 41)) dX12_readConstant_76 rfl (by decide) kf_RX12_269 (congrArg vi (MR.in_ (MR.putA mr4 (k := 20) (j := (24 * (M 0 41)) + (M 14 (M 0 41))) (z := z4) (by decide)) (k := 41) (by decide) (up_ne (Or.inl (by decide))))) (MR.putA mr4 (k := 20) (j := (24 * (M 0 41)) + (M 14 (M 0 41))) (z := z4) (by decide)).1 ?_
        refine X_dup2 dX12_readConstant_79 rfl (rv_cat _) ?_
        refine X_iaload dX12_readConstant_80 ((MR.ar (MR.putA mr4 (k := 20) (j := (24 * (M 0 41)) + (M 14 (M 0 41))) (z := z4) (by decide)) (k := 14) (by decide)).2.1.trans (by decide)) (hc5.1 c6).1 (lt_eq (hc5.1 c6).2.1 (MR.ln (MR.putA mr4 (k := 20) (j := (24 * (M 0 41)) + (M 14 (M 0 41))) (z := z4) (by decide)) (k := 14) (by decide) (by decide))) ?_
        refine X_top (v := vi (M4 14 (M4 0 41))) (congrArg vi (MR.el (MR.putA mr4 (k := 20) (j := (24 * (M 0 41)) + (M 14 (M 0 41))) (z := z4) (by decide)) (k := 14) (by decide) (up_ne (Or.inl (by decide))))) ?_
        refine X_iconst dX12_readConstant_81 (by decide) ?_
        refine X_iaddN dX12_readConstant_82 ((hc5.1 c6).2.2.1 c7).2.2.1 ((hc5.1 c6).2.2.1 c7).2.2.2.1 ?_
        refine X_iastore dX12_readConstant_83 ((MR.ar (MR.putA mr4 (k := 20) (j := (24 * (M 0 41)) + (M 14 (M 0 41))) (z := z4) (by decide)) (k := 14) (by decide)).2.1.trans (by decide)) (hc5.1 c6).1 (lt_eq (hc5.1 c6).2.1 (MR.ln (MR.putA mr4 (k := 20) (j := (24 * (M 0 41)) + (M 14 (M 0 41))) (z := z4) (by decide)) (k := 14) (by decide) (by decide))) ?_
        refine X_aload_n dX12_readConstant_84 rfl ?_
        refine X_getfield (ci := 12) (k := 21) (v := vr (a 21)) dX12_readConstant_85 rfl (by decide) kf_RX12_50 (congrArg vr (MR.ar (MR.putA (MR.putA mr4 (k := 20) (j := (24 * (M 0 41)) + (M 14 (M 0 41))) (z := z4) (by decide)) (k := 14) (j := M4 0 41) (z := (M4 14 (M4 0 41)) + 1) (by decide)) (k := 21) (by decide)).1) (MR.putA (MR.putA mr4 (k := 20) (j := (24 * (M 0 41)) + (M 14 (M 0 41))) (z := z4) (by decide)) (k := 14) (j := M4 0 41) (z := (M4 14 (M4 0 41)) + 1) (by decide)).1 ?_
        refine X_iload_n dX12_readConstant_88 rfl ?_
        refine X_iconst dX12_readConstant_89 (by decide) ?_
        refine X_iastore dX12_readConstant_90 ((MR.ar (MR.putA (MR.putA mr4 (k := 20) (j := (24 * (M 0 41)) + (M 14 (M 0 41))) (z := z4) (by decide)) (k := 14) (j := M4 0 41) (z := (M4 14 (M4 0 41)) + 1) (by decide)) (k := 21) (by decide)).2.1.trans (by decide)) ((hc5.1 c6).2.2.1 c7).1 (lt_eq ((hc5.1 c6).2.2.1 c7).2.1 (MR.ln (MR.putA (MR.putA mr4 (k := 20) (j := (24 * (M 0 41)) + (M 14 (M 0 41))) (z := z4) (by decide)) (k := 14) (j := M4 0 41) (z := (M4 14 (M4 0 41)) + 1) (by decide)) (k := 21) (by decide) (by decide))) ?_
        refine X_iconst dX12_readConstant_91 (by decide) ?_
        refine X_istore_n dX12_readConstant_92 (by decide) rfl ?_
        exact hrc n_readConstant_93 [(24 * (M 0 41)) + (M 14 (M 0 41)), z4, 0] _ _ ((hc5.1 c6).2.2.1 c7).2.2.2.2 (MR.putA (MR.putA (MR.putA mr4 (k := 20) (j := (24 * (M 0 41)) + (M 14 (M 0 41))) (z := z4) (by decide)) (k := 14) (j := M4 0 41) (z := (M4 14 (M4 0 41)) + 1) (by decide)) (k := 21) (j := (24 * (M 0 41)) + (M 14 (M 0 41))) (z := (-1)) (by decide)) (MF.putA (MF.putA (MF.putA mf4 (k := 20) (j := (24 * (M 0 41)) + (M 14 (M 0 41))) (z := z4) (by decide)) (k := 14) (j := M4 0 41) (z := (M4 14 (M4 0 41)) + 1) (by decide)) (k := 21) (j := (24 * (M 0 41)) + (M 14 (M 0 41))) (z := (-1)) (by decide))
      · refine X_aload_n dX12_readConstant_57 rfl ?_
        refine X_iconst dX12_readConstant_58 (by decide) ?_
        refine X_invV (ci := 12) (as := [vi 5]) (st := []) okX12_fault dX12_readConstant_59 km_RX12_288 rfl rfl (Nat.le_of_ble_eq_true rfl) rfl rfl mr4.1 (CT.of d 0 0 (hcl n_fault_0 rfl [5] _ _ _ ((hc5.1 c6).2.2.2 c7) mr4) (Nat.le_refl _) (Nat.zero_le _) (Nat.zero_le _) (fun z8 S8 V8 hq8 => ?_))
        obtain ⟨rfl, M8, hc9, mr8, hf8⟩ := hq8
        have mf8 := MF.trans mf4 hf8
        refine X_istore_n dX12_readConstant_62 (by decide) rfl ?_
        exact X_ret (z := 0) dX12_readConstant_63 rfl (fun _ => trivial) ⟨rfl, _, hc9, mr8, mf8⟩
    · exact X_ret (z := 0) dX12_readConstant_42 rfl (fun _ => trivial) ⟨rfl, _, (hc5.2 c6), mr4, mf4⟩
  · exact X_ret (z := 0) dX12_readConstant_7 rfl (fun _ => trivial) ⟨rfl, _, (hB.2 c1), mr, mf⟩
def B_readConstant_93 (rc : MP) (cl : MC) (Q : Int → Mem → Prop) (d : Nat) (x1 x2 x3 : Int) (M : Mem) : Prop := (4 ≤ x3 → cl n_next_0 [] M (fun z2 M2 => cl n_isSign_0 [40] M2 (fun z4 M4 => (z4 = 0 → (0 < (M4 0 46) → Q 0 M4) ∧ (¬ (0 < (M4 0 46)) → cl n_isSign_0 [123] M4 (fun z8 M8 => (z8 ≠ 0 → cl n_next_0 [] M8 (fun z11 M11 => rc n_readConstant_172 [x1, x2, x3] M11)) ∧ (¬ (z8 ≠ 0) → Q 0 M8)))) ∧ (¬ (z4 = 0) → cl n_next_0 [] M4 (fun z13 M13 => cl n_readExpr_0 [0, 1, 0] M13 (fun z15 M15 => 0 ≤ x1 ∧ x1 < 2880 ∧ cl n_sign_0 [41] (up M15 21 x1 z15) (fun z17 M17 => (0 < (M17 0 46) → Q 0 M17) ∧ (¬ (0 < (M17 0 46)) → cl n_isSign_0 [123] M17 (fun z20 M20 => (z20 ≠ 0 → cl n_next_0 [] M20 (fun z23 M23 => rc n_readConstant_172 [x1, x2, x3] M23)) ∧ (¬ (z20 ≠ 0) → Q 0 M20)))))))))) ∧ (¬ (4 ≤ x3) → -2147483648 ≤ 4 * x1 ∧ 4 * x1 ≤ 2147483647 ∧ -2147483648 ≤ (4 * x1) + x3 ∧ (4 * x1) + x3 ≤ 2147483647 ∧ 0 ≤ ((4 * x1) + x3) ∧ ((4 * x1) + x3) < 11520 ∧ -2147483648 ≤ x3 + 1 ∧ x3 + 1 ≤ 2147483647 ∧ rc n_readConstant_93 [x1, x2, x3 + 1] (up M 22 ((4 * x1) + x3) (-1)))
set_option maxRecDepth 10000 in
theorem s_readConstant_93 {l : Launch} {G : GT} {m : Int} {a : Int → Int} {d mc ms : Nat} {S : Sh} {Q : Int → Mem → Prop} {rc : MP} {cl : MC} {V0 V M : Mem} {x1 x2 x3 : Int} (hrc : RCok l G m a S V0 Q d mc ms rc) (hcl : CLok l G m a S d cl) (mr : MR m a S V M) (mf : MF m a V0 V) (hB : B_readConstant_93 rc cl Q d x1 x2 x3 M) : XJ l G bX12_readConstant (Qm m a S V0 Q) (d + 1) 93 [vr m, vi x1, vi x2, vi x3] [] S V mc ms := by
  unfold B_readConstant_93 at hB
  refine X_iload_n dX12_readConstant_93 rfl ?_
  refine X_iconst dX12_readConstant_94 (by decide) ?_
  refine X_icmp_ge dX12_readConstant_95 (tgt := 115) rfl (fun c1 => ?_) (fun c1 => ?_)
  · refine X_aload_n dX12_readConstant_115 rfl ?_
    refine X_invV (ci := 12) (as := []) (st := []) okX12_next dX12_readConstant_116 km_RX12_285 rfl rfl (Nat.le_of_ble_eq_true rfl) rfl rfl mr.1 (CT.of d 0 0 (hcl n_next_0 rfl [] _ _ _ (hB.1 c1) mr) (Nat.le_refl _) (Nat.zero_le _) (Nat.zero_le _) (fun z2 S2 V2 hq2 => ?_))
    obtain ⟨rfl, M2, hc3, mr2, hf2⟩ := hq2
    have mf2 := MF.trans mf hf2
    refine X_aload_n dX12_readConstant_119 rfl ?_
    refine X_bipush dX12_readConstant_120 (by decide) (by decide) ?_
    refine X_invV (ci := 12) (as := [vi 40]) (st := []) okX12_isSign dX12_readConstant_122 km_RX12_281 rfl rfl (Nat.le_of_ble_eq_true rfl) rfl rfl mr2.1 (CT.of d 0 0 (hcl n_isSign_0 rfl [40] _ _ _ hc3 mr2) (Nat.le_refl _) (Nat.zero_le _) (Nat.zero_le _) (fun z4 S4 V4 hq4 => ?_))
    obtain ⟨rfl, M4, hc5, mr4, hf4⟩ := hq4
    have mf4 := MF.trans mf2 hf4
    refine X_if_eq dX12_readConstant_125 (tgt := 151) rfl (fun c6 => ?_) (fun c6 => ?_)
    · refine X_aload_n dX12_readConstant_151 rfl ?_
      refine X_getfield (ci := 12) (k := 46) (v := vi (M4 0 46)) dX12_readConstant_152 rfl (by decide) kf_RX12_275 (congrArg vi (MR.in_ mr4 (k := 46) (by decide) rfl)) mr4.1 ?_
      refine X_if_gt dX12_readConstant_155 (tgt := 167) rfl (fun c7 => ?_) (fun c7 => ?_)
      · exact X_ret (z := 0) dX12_readConstant_167 rfl (fun _ => trivial) ⟨rfl, _, ((hc5.1 c6).1 c7), mr4, mf4⟩
      · refine X_aload_n dX12_readConstant_158 rfl ?_
        refine X_bipush dX12_readConstant_159 (by decide) (by decide) ?_
        refine X_invV (ci := 12) (as := [vi 123]) (st := []) okX12_isSign dX12_readConstant_161 km_RX12_281 rfl rfl (Nat.le_of_ble_eq_true rfl) rfl rfl mr4.1 (CT.of d 0 0 (hcl n_isSign_0 rfl [123] _ _ _ ((hc5.1 c6).2 c7) mr4) (Nat.le_refl _) (Nat.zero_le _) (Nat.zero_le _) (fun z8 S8 V8 hq8 => ?_))
        obtain ⟨rfl, M8, hc9, mr8, hf8⟩ := hq8
        have mf8 := MF.trans mf4 hf8
        refine X_if_ne dX12_readConstant_164 (tgt := 168) rfl (fun c10 => ?_) (fun c10 => ?_)
        · refine X_aload_n dX12_readConstant_168 rfl ?_
          refine X_invV (ci := 12) (as := []) (st := []) okX12_next dX12_readConstant_169 km_RX12_285 rfl rfl (Nat.le_of_ble_eq_true rfl) rfl rfl mr8.1 (CT.of d 0 0 (hcl n_next_0 rfl [] _ _ _ (hc9.1 c10) mr8) (Nat.le_refl _) (Nat.zero_le _) (Nat.zero_le _) (fun z11 S11 V11 hq11 => ?_))
          obtain ⟨rfl, M11, hc12, mr11, hf11⟩ := hq11
          have mf11 := MF.trans mf8 hf11
          exact hrc n_readConstant_172 [x1, x2, x3] _ _ hc12 mr11 mf11
        · exact X_ret (z := 0) dX12_readConstant_167 rfl (fun _ => trivial) ⟨rfl, _, (hc9.2 c10), mr8, mf8⟩
    · refine X_aload_n dX12_readConstant_128 rfl ?_
      refine X_invV (ci := 12) (as := []) (st := []) okX12_next dX12_readConstant_129 km_RX12_285 rfl rfl (Nat.le_of_ble_eq_true rfl) rfl rfl mr4.1 (CT.of d 0 0 (hcl n_next_0 rfl [] _ _ _ (hc5.2 c6) mr4) (Nat.le_refl _) (Nat.zero_le _) (Nat.zero_le _) (fun z13 S13 V13 hq13 => ?_))
      obtain ⟨rfl, M13, hc14, mr13, hf13⟩ := hq13
      have mf13 := MF.trans mf4 hf13
      refine X_aload_n dX12_readConstant_132 rfl ?_
      refine X_getfield (ci := 12) (k := 21) (v := vr (a 21)) dX12_readConstant_133 rfl (by decide) kf_RX12_50 (congrArg vr (MR.ar mr13 (k := 21) (by decide)).1) mr13.1 ?_
      refine X_iload_n dX12_readConstant_136 rfl ?_
      refine X_aload_n dX12_readConstant_137 rfl ?_
      refine X_iconst dX12_readConstant_138 (by decide) ?_
      refine X_iconst dX12_readConstant_139 (by decide) ?_
      refine X_iconst dX12_readConstant_140 (by decide) ?_
      refine X_invV (ci := 12) (as := [vi 0, vi 1, vi 0]) (st := [vi x1, vr (a 21)]) okX12_readExpr dX12_readConstant_141 km_RX12_331 rfl rfl (Nat.le_of_ble_eq_true rfl) rfl rfl mr13.1 (CT.of d 0 0 (hcl n_readExpr_0 rfl [0, 1, 0] _ _ _ hc14 mr13) (Nat.le_refl _) (Nat.zero_le _) (Nat.zero_le _) (fun z15 S15 V15 hq15 => ?_))
      obtain ⟨rfl, M15, hc16, mr15, hf15⟩ := hq15
      have mf15 := MF.trans mf13 hf15
      refine X_iastore dX12_readConstant_144 ((MR.ar mr15 (k := 21) (by decide)).2.1.trans (by decide)) hc16.1 (lt_eq hc16.2.1 (MR.ln mr15 (k := 21) (by decide) (by decide))) ?_
      refine X_aload_n dX12_readConstant_145 rfl ?_
      refine X_bipush dX12_readConstant_146 (by decide) (by decide) ?_
      refine X_invV (ci := 12) (as := [vi 41]) (st := []) okX12_sign dX12_readConstant_148 km_RX12_318 rfl rfl (Nat.le_of_ble_eq_true rfl) rfl rfl (MR.putA mr15 (k := 21) (j := x1) (z := z15) (by decide)).1 (CT.of d 0 0 (hcl n_sign_0 rfl [41] _ _ _ hc16.2.2 (MR.putA mr15 (k := 21) (j := x1) (z := z15) (by decide))) (Nat.le_refl _) (Nat.zero_le _) (Nat.zero_le _) (fun z17 S17 V17 hq17 => ?_))
      obtain ⟨rfl, M17, hc18, mr17, hf17⟩ := hq17
      have mf17 := MF.trans (MF.putA mf15 (k := 21) (j := x1) (z := z15) (by decide)) hf17
      refine X_aload_n dX12_readConstant_151 rfl ?_
      refine X_getfield (ci := 12) (k := 46) (v := vi (M17 0 46)) dX12_readConstant_152 rfl (by decide) kf_RX12_275 (congrArg vi (MR.in_ mr17 (k := 46) (by decide) rfl)) mr17.1 ?_
      refine X_if_gt dX12_readConstant_155 (tgt := 167) rfl (fun c19 => ?_) (fun c19 => ?_)
      · exact X_ret (z := 0) dX12_readConstant_167 rfl (fun _ => trivial) ⟨rfl, _, (hc18.1 c19), mr17, mf17⟩
      · refine X_aload_n dX12_readConstant_158 rfl ?_
        refine X_bipush dX12_readConstant_159 (by decide) (by decide) ?_
        refine X_invV (ci := 12) (as := [vi 123]) (st := []) okX12_isSign dX12_readConstant_161 km_RX12_281 rfl rfl (Nat.le_of_ble_eq_true rfl) rfl rfl mr17.1 (CT.of d 0 0 (hcl n_isSign_0 rfl [123] _ _ _ (hc18.2 c19) mr17) (Nat.le_refl _) (Nat.zero_le _) (Nat.zero_le _) (fun z20 S20 V20 hq20 => ?_))
        obtain ⟨rfl, M20, hc21, mr20, hf20⟩ := hq20
        have mf20 := MF.trans mf17 hf20
        refine X_if_ne dX12_readConstant_164 (tgt := 168) rfl (fun c22 => ?_) (fun c22 => ?_)
        · refine X_aload_n dX12_readConstant_168 rfl ?_
          refine X_invV (ci := 12) (as := []) (st := []) okX12_next dX12_readConstant_169 km_RX12_285 rfl rfl (Nat.le_of_ble_eq_true rfl) rfl rfl mr20.1 (CT.of d 0 0 (hcl n_next_0 rfl [] _ _ _ (hc21.1 c22) mr20) (Nat.le_refl _) (Nat.zero_le _) (Nat.zero_le _) (fun z23 S23 V23 hq23 => ?_))
          obtain ⟨rfl, M23, hc24, mr23, hf23⟩ := hq23
          have mf23 := MF.trans mf20 hf23
          exact hrc n_readConstant_172 [x1, x2, x3] _ _ hc24 mr23 mf23
        · exact X_ret (z := 0) dX12_readConstant_167 rfl (fun _ => trivial) ⟨rfl, _, (hc21.2 c22), mr20, mf20⟩
  · refine X_aload_n dX12_readConstant_98 rfl ?_
    refine X_getfield (ci := 12) (k := 22) (v := vr (a 22)) dX12_readConstant_99 rfl (by decide) kf_RX12_53 (congrArg vr (MR.ar mr (k := 22) (by decide)).1) mr.1 ?_
    refine X_iconst dX12_readConstant_102 (by decide) ?_
    refine X_iload_n dX12_readConstant_103 rfl ?_
    refine X_imulN dX12_readConstant_104 (hB.2 c1).1 (hB.2 c1).2.1 ?_
    refine X_iload_n dX12_readConstant_105 rfl ?_
    refine X_iaddN dX12_readConstant_106 (hB.2 c1).2.2.1 (hB.2 c1).2.2.2.1 ?_
    refine X_iconst dX12_readConstant_107 (by decide) ?_
    refine X_iastore dX12_readConstant_108 ((MR.ar mr (k := 22) (by decide)).2.1.trans (by decide)) (hB.2 c1).2.2.2.2.1 (lt_eq (hB.2 c1).2.2.2.2.2.1 (MR.ln mr (k := 22) (by decide) (by decide))) ?_
    refine X_iincN dX12_readConstant_109 rfl (by decide) rfl (e := x3 + 1) rfl (hB.2 c1).2.2.2.2.2.2.1 (hB.2 c1).2.2.2.2.2.2.2.1 ?_
    refine X_goto dX12_readConstant_112 (tgt := 93) rfl ?_
    exact hrc n_readConstant_93 [x1, x2, x3 + 1] _ _ (hB.2 c1).2.2.2.2.2.2.2.2 (MR.putA mr (k := 22) (j := (4 * x1) + x3) (z := (-1)) (by decide)) (MF.putA mf (k := 22) (j := (4 * x1) + x3) (z := (-1)) (by decide))
def B_readConstant_172 (rc : MP) (cl : MC) (Q : Int → Mem → Prop) (d : Nat) (x1 x2 x3 : Int) (M : Mem) : Prop := cl n_readAct_0 [x1] M (fun z1 M1 => ((M1 0 46) ≠ 0 → cl n_sign_0 [125] M1 (fun z4 M4 => Q 0 M4)) ∧ (¬ ((M1 0 46) ≠ 0) → cl n_isSign_0 [125] M1 (fun z6 M6 => (z6 = 0 → rc n_readConstant_172 [x1, x2, x3] M6) ∧ (¬ (z6 = 0) → cl n_sign_0 [125] M6 (fun z9 M9 => Q 0 M9)))))
set_option maxRecDepth 10000 in
theorem s_readConstant_172 {l : Launch} {G : GT} {m : Int} {a : Int → Int} {d mc ms : Nat} {S : Sh} {Q : Int → Mem → Prop} {rc : MP} {cl : MC} {V0 V M : Mem} {x1 x2 x3 : Int} (hrc : RCok l G m a S V0 Q d mc ms rc) (hcl : CLok l G m a S d cl) (mr : MR m a S V M) (mf : MF m a V0 V) (hB : B_readConstant_172 rc cl Q d x1 x2 x3 M) : XJ l G bX12_readConstant (Qm m a S V0 Q) (d + 1) 172 [vr m, vi x1, vi x2, vi x3] [] S V mc ms := by
  unfold B_readConstant_172 at hB
  refine X_aload_n dX12_readConstant_172 rfl ?_
  refine X_iload_n dX12_readConstant_173 rfl ?_
  refine X_invV (ci := 12) (as := [vi x1]) (st := []) okX12_readAct dX12_readConstant_174 km_RX12_335 rfl rfl (Nat.le_of_ble_eq_true rfl) rfl rfl mr.1 (CT.of d 0 0 (hcl n_readAct_0 rfl [x1] _ _ _ hB mr) (Nat.le_refl _) (Nat.zero_le _) (Nat.zero_le _) (fun z1 S1 V1 hq1 => ?_))
  obtain ⟨rfl, M1, hc2, mr1, hf1⟩ := hq1
  have mf1 := MF.trans mf hf1
  refine X_aload_n dX12_readConstant_177 rfl ?_
  refine X_getfield (ci := 12) (k := 46) (v := vi (M1 0 46)) dX12_readConstant_178 rfl (by decide) kf_RX12_275 (congrArg vi (MR.in_ mr1 (k := 46) (by decide) rfl)) mr1.1 ?_
  refine X_if_ne dX12_readConstant_181 (tgt := 193) rfl (fun c3 => ?_) (fun c3 => ?_)
  · refine X_aload_n dX12_readConstant_193 rfl ?_
    refine X_bipush dX12_readConstant_194 (by decide) (by decide) ?_
    refine X_invV (ci := 12) (as := [vi 125]) (st := []) okX12_sign dX12_readConstant_196 km_RX12_318 rfl rfl (Nat.le_of_ble_eq_true rfl) rfl rfl mr1.1 (CT.of d 0 0 (hcl n_sign_0 rfl [125] _ _ _ (hc2.1 c3) mr1) (Nat.le_refl _) (Nat.zero_le _) (Nat.zero_le _) (fun z4 S4 V4 hq4 => ?_))
    obtain ⟨rfl, M4, hc5, mr4, hf4⟩ := hq4
    have mf4 := MF.trans mf1 hf4
    exact X_ret (z := 0) dX12_readConstant_199 rfl (fun _ => trivial) ⟨rfl, _, hc5, mr4, mf4⟩
  · refine X_aload_n dX12_readConstant_184 rfl ?_
    refine X_bipush dX12_readConstant_185 (by decide) (by decide) ?_
    refine X_invV (ci := 12) (as := [vi 125]) (st := []) okX12_isSign dX12_readConstant_187 km_RX12_281 rfl rfl (Nat.le_of_ble_eq_true rfl) rfl rfl mr1.1 (CT.of d 0 0 (hcl n_isSign_0 rfl [125] _ _ _ (hc2.2 c3) mr1) (Nat.le_refl _) (Nat.zero_le _) (Nat.zero_le _) (fun z6 S6 V6 hq6 => ?_))
    obtain ⟨rfl, M6, hc7, mr6, hf6⟩ := hq6
    have mf6 := MF.trans mf1 hf6
    refine X_if_eq dX12_readConstant_190 (tgt := 172) rfl (fun c8 => ?_) (fun c8 => ?_)
    · exact hrc n_readConstant_172 [x1, x2, x3] _ _ (hc7.1 c8) mr6 mf6
    · refine X_aload_n dX12_readConstant_193 rfl ?_
      refine X_bipush dX12_readConstant_194 (by decide) (by decide) ?_
      refine X_invV (ci := 12) (as := [vi 125]) (st := []) okX12_sign dX12_readConstant_196 km_RX12_318 rfl rfl (Nat.le_of_ble_eq_true rfl) rfl rfl mr6.1 (CT.of d 0 0 (hcl n_sign_0 rfl [125] _ _ _ (hc7.2 c8) mr6) (Nat.le_refl _) (Nat.zero_le _) (Nat.zero_le _) (fun z9 S9 V9 hq9 => ?_))
      obtain ⟨rfl, M9, hc10, mr9, hf9⟩ := hq9
      have mf9 := MF.trans mf6 hf9
      exact X_ret (z := 0) dX12_readConstant_199 rfl (fun _ => trivial) ⟨rfl, _, hc10, mr9, mf9⟩
def B_readAct_0 (rc : MP) (cl : MC) (Q : Int → Mem → Prop) (d : Nat) (x1 : Int) (M : Mem) : Prop := cl n_isWord_0 [5] M (fun z1 M1 => (z1 ≠ 0 → cl n_next_0 [] M1 (fun z4 M4 => cl n_isName_0 [] M4 (fun z6 M6 => (z6 ≠ 0 → rc n_readAct_36 [x1, 0] M6) ∧ (¬ (z6 ≠ 0) → cl n_fault_0 [2] M6 (fun z9 M9 => Q 0 M9))))) ∧ (¬ (z1 ≠ 0) → cl n_fault_0 [2] M1 (fun z11 M11 => Q 0 M11)))
set_option maxRecDepth 10000 in
theorem s_readAct_0 {l : Launch} {G : GT} {m : Int} {a : Int → Int} {d mc ms : Nat} {S : Sh} {Q : Int → Mem → Prop} {rc : MP} {cl : MC} {V0 V M : Mem} {x1 : Int} (hrc : RCok l G m a S V0 Q d mc ms rc) (hcl : CLok l G m a S d cl) (mr : MR m a S V M) (mf : MF m a V0 V) (hB : B_readAct_0 rc cl Q d x1 M) : XJ l G bX12_readAct (Qm m a S V0 Q) (d + 1) 0 [vr m, vi x1, vu, vu, vu] [] S V mc ms := by
  unfold B_readAct_0 at hB
  refine X_aload_n dX12_readAct_0 rfl ?_
  refine X_ldcS (i := 5) dX12_readAct_1 (by decide) ⟨rfl, rfl⟩ ?_
  refine X_invV (ci := 12) (as := [vr ((G.2.2.2.1 5 : Int) + 1)]) (st := []) okX12_isWord dX12_readAct_3 km_RX12_235 rfl rfl (Nat.le_of_ble_eq_true rfl) rfl rfl mr.1 (CT.of d 0 0 (hcl n_isWord_0 rfl [5] _ _ _ hB mr) (Nat.le_refl _) (Nat.zero_le _) (Nat.zero_le _) (fun z1 S1 V1 hq1 => ?_))
  obtain ⟨rfl, M1, hc2, mr1, hf1⟩ := hq1
  have mf1 := MF.trans mf hf1
  refine X_if_ne dX12_readAct_6 (tgt := 16) rfl (fun c3 => ?_) (fun c3 => ?_)
  · refine X_aload_n dX12_readAct_16 rfl ?_
    refine X_invV (ci := 12) (as := []) (st := []) okX12_next dX12_readAct_17 km_RX12_285 rfl rfl (Nat.le_of_ble_eq_true rfl) rfl rfl mr1.1 (CT.of d 0 0 (hcl n_next_0 rfl [] _ _ _ (hc2.1 c3) mr1) (Nat.le_refl _) (Nat.zero_le _) (Nat.zero_le _) (fun z4 S4 V4 hq4 => ?_))
    obtain ⟨rfl, M4, hc5, mr4, hf4⟩ := hq4
    have mf4 := MF.trans mf1 hf4
    refine X_aload_n dX12_readAct_20 rfl ?_
    refine X_invV (ci := 12) (as := []) (st := []) okX12_isName dX12_readAct_21 km_RX12_291 rfl rfl (Nat.le_of_ble_eq_true rfl) rfl rfl mr4.1 (CT.of d 0 0 (hcl n_isName_0 rfl [] _ _ _ hc5 mr4) (Nat.le_refl _) (Nat.zero_le _) (Nat.zero_le _) (fun z6 S6 V6 hq6 => ?_))
    obtain ⟨rfl, M6, hc7, mr6, hf6⟩ := hq6
    have mf6 := MF.trans mf4 hf6
    refine X_if_ne dX12_readAct_24 (tgt := 34) rfl (fun c8 => ?_) (fun c8 => ?_)
    · refine X_iconst dX12_readAct_34 (by decide) ?_
      refine X_istore_n dX12_readAct_35 (by decide) rfl ?_
      exact hrc n_readAct_36 [x1, 0] _ _ (hc7.1 c8) mr6 mf6
    · refine X_aload_n dX12_readAct_27 rfl ?_
      refine X_iconst dX12_readAct_28 (by decide) ?_
      refine X_invV (ci := 12) (as := [vi 2]) (st := []) okX12_fault dX12_readAct_29 km_RX12_288 rfl rfl (Nat.le_of_ble_eq_true rfl) rfl rfl mr6.1 (CT.of d 0 0 (hcl n_fault_0 rfl [2] _ _ _ (hc7.2 c8) mr6) (Nat.le_refl _) (Nat.zero_le _) (Nat.zero_le _) (fun z9 S9 V9 hq9 => ?_))
      obtain ⟨rfl, M9, hc10, mr9, hf9⟩ := hq9
      have mf9 := MF.trans mf6 hf9
      refine X_istore_n dX12_readAct_32 (by decide) rfl ?_
      exact X_ret (z := 0) dX12_readAct_33 rfl (fun _ => trivial) ⟨rfl, _, hc10, mr9, mf9⟩
  · refine X_aload_n dX12_readAct_9 rfl ?_
    refine X_iconst dX12_readAct_10 (by decide) ?_
    refine X_invV (ci := 12) (as := [vi 2]) (st := []) okX12_fault dX12_readAct_11 km_RX12_288 rfl rfl (Nat.le_of_ble_eq_true rfl) rfl rfl mr1.1 (CT.of d 0 0 (hcl n_fault_0 rfl [2] _ _ _ (hc2.2 c3) mr1) (Nat.le_refl _) (Nat.zero_le _) (Nat.zero_le _) (fun z11 S11 V11 hq11 => ?_))
    obtain ⟨rfl, M11, hc12, mr11, hf11⟩ := hq11
    have mf11 := MF.trans mf1 hf11
    refine X_istore_n dX12_readAct_14 (by decide) rfl ?_
    exact X_ret (z := 0) dX12_readAct_15 rfl (fun _ => trivial) ⟨rfl, _, hc12, mr11, mf11⟩
def B_readAct_36 (rc : MP) (cl : MC) (Q : Int → Mem → Prop) (d : Nat) (x1 x2 : Int) (M : Mem) : Prop := 0 ≤ (M 0 9) ∧ (M 0 9) < 10 ∧ ((M 11 (M 0 9)) ≤ x2 → ((M 11 (M 0 9)) ≤ x2 → rc n_readAct_132 [x1, x2, 0] M) ∧ (¬ ((M 11 (M 0 9)) ≤ x2) → (x1 ≠ (-1) → -2147483648 ≤ 4 * x1 ∧ 4 * x1 ≤ 2147483647 ∧ -2147483648 ≤ (4 * x1) + x2 ∧ (4 * x1) + x2 ≤ 2147483647 ∧ 0 ≤ ((4 * x1) + x2) ∧ ((4 * x1) + x2) < 11520 ∧ ((M 22 ((4 * x1) + x2)) = (-1) → rc n_readAct_132 [x1, x2, 0] M) ∧ (¬ ((M 22 ((4 * x1) + x2)) = (-1)) → rc n_readAct_132 [x1, x2, 1] M)) ∧ (¬ (x1 ≠ (-1)) → -2147483648 ≤ 4 * (M 0 41) ∧ 4 * (M 0 41) ≤ 2147483647 ∧ -2147483648 ≤ (4 * (M 0 41)) + x2 ∧ (4 * (M 0 41)) + x2 ≤ 2147483647 ∧ 0 ≤ ((4 * (M 0 41)) + x2) ∧ ((4 * (M 0 41)) + x2) < 480 ∧ ((M 19 ((4 * (M 0 41)) + x2)) = (-1) → rc n_readAct_132 [x1, x2, 0] M) ∧ (¬ ((M 19 ((4 * (M 0 41)) + x2)) = (-1)) → rc n_readAct_132 [x1, x2, 1] M)))) ∧ (¬ ((M 11 (M 0 9)) ≤ x2) → -2147483648 ≤ 4 * (M 0 9) ∧ 4 * (M 0 9) ≤ 2147483647 ∧ -2147483648 ≤ (4 * (M 0 9)) + x2 ∧ (4 * (M 0 9)) + x2 ≤ 2147483647 ∧ 0 ≤ ((4 * (M 0 9)) + x2) ∧ ((4 * (M 0 9)) + x2) < 40 ∧ cl n_nameHere_0 [] M (fun z6 M6 => cl n_isSame_0 [M 12 ((4 * (M 0 9)) + x2), z6] M6 (fun z8 M8 => (z8 ≠ 0 → 0 ≤ (M8 0 9) ∧ (M8 0 9) < 10 ∧ ((M8 11 (M8 0 9)) ≤ x2 → rc n_readAct_132 [x1, x2, 0] M8) ∧ (¬ ((M8 11 (M8 0 9)) ≤ x2) → (x1 ≠ (-1) → -2147483648 ≤ 4 * x1 ∧ 4 * x1 ≤ 2147483647 ∧ -2147483648 ≤ (4 * x1) + x2 ∧ (4 * x1) + x2 ≤ 2147483647 ∧ 0 ≤ ((4 * x1) + x2) ∧ ((4 * x1) + x2) < 11520 ∧ ((M8 22 ((4 * x1) + x2)) = (-1) → rc n_readAct_132 [x1, x2, 0] M8) ∧ (¬ ((M8 22 ((4 * x1) + x2)) = (-1)) → rc n_readAct_132 [x1, x2, 1] M8)) ∧ (¬ (x1 ≠ (-1)) → -2147483648 ≤ 4 * (M8 0 41) ∧ 4 * (M8 0 41) ≤ 2147483647 ∧ -2147483648 ≤ (4 * (M8 0 41)) + x2 ∧ (4 * (M8 0 41)) + x2 ≤ 2147483647 ∧ 0 ≤ ((4 * (M8 0 41)) + x2) ∧ ((4 * (M8 0 41)) + x2) < 480 ∧ ((M8 19 ((4 * (M8 0 41)) + x2)) = (-1) → rc n_readAct_132 [x1, x2, 0] M8) ∧ (¬ ((M8 19 ((4 * (M8 0 41)) + x2)) = (-1)) → rc n_readAct_132 [x1, x2, 1] M8)))) ∧ (¬ (z8 ≠ 0) → -2147483648 ≤ x2 + 1 ∧ x2 + 1 ≤ 2147483647 ∧ rc n_readAct_36 [x1, x2 + 1] M8))))
set_option maxRecDepth 10000 in
theorem s_readAct_36 {l : Launch} {G : GT} {m : Int} {a : Int → Int} {d mc ms : Nat} {S : Sh} {Q : Int → Mem → Prop} {rc : MP} {cl : MC} {V0 V M : Mem} {x1 x2 : Int} (hrc : RCok l G m a S V0 Q d mc ms rc) (hcl : CLok l G m a S d cl) (mr : MR m a S V M) (mf : MF m a V0 V) (hB : B_readAct_36 rc cl Q d x1 x2 M) : XJ l G bX12_readAct (Qm m a S V0 Q) (d + 1) 36 [vr m, vi x1, vi x2, vu, vu] [] S V mc ms := by
  unfold B_readAct_36 at hB
  refine X_iload_n dX12_readAct_36 rfl ?_
  refine X_aload_n dX12_readAct_37 rfl ?_
  refine X_getfield (ci := 12) (k := 11) (v := vr (a 11)) dX12_readAct_38 rfl (by decide) kf_RX12_20 (congrArg vr (MR.ar mr (k := 11) (by decide)).1) mr.1 ?_
  refine X_aload_n dX12_readAct_41 rfl ?_
  refine X_getfield (ci := 12) (k := 9) (v := vi (M 0 9)) dX12_readAct_42 rfl (by decide) kf_RX12_263 (congrArg vi (MR.in_ mr (k := 9) (by decide) rfl)) mr.1 ?_
  refine X_iaload dX12_readAct_45 ((MR.ar mr (k := 11) (by decide)).2.1.trans (by decide)) hB.1 (lt_eq hB.2.1 (MR.ln mr (k := 11) (by decide) (by decide))) ?_
  refine X_top (v := vi (M 11 (M 0 9))) (congrArg vi (MR.el mr (k := 11) (by decide) rfl)) ?_
  refine X_icmp_ge dX12_readAct_46 (tgt := 79) rfl (fun c1 => ?_) (fun c1 => ?_)
  · refine X_iload_n dX12_readAct_79 rfl ?_
    refine X_aload_n dX12_readAct_80 rfl ?_
    refine X_getfield (ci := 12) (k := 11) (v := vr (a 11)) dX12_readAct_81 rfl (by decide) kf_RX12_20 (congrArg vr (MR.ar mr (k := 11) (by decide)).1) mr.1 ?_
    refine X_aload_n dX12_readAct_84 rfl ?_
    refine X_getfield (ci := 12) (k := 9) (v := vi (M 0 9)) dX12_readAct_85 rfl (by decide) kf_RX12_263 (congrArg vi (MR.in_ mr (k := 9) (by decide) rfl)) mr.1 ?_
    refine X_iaload dX12_readAct_88 ((MR.ar mr (k := 11) (by decide)).2.1.trans (by decide)) hB.1 (lt_eq hB.2.1 (MR.ln mr (k := 11) (by decide) (by decide))) ?_
    refine X_top (v := vi (M 11 (M 0 9))) (congrArg vi (MR.el mr (k := 11) (by decide) rfl)) ?_
    refine X_icmp_ge dX12_readAct_89 (tgt := 131) rfl (fun c2 => ?_) (fun c2 => ?_)
    · refine X_iconst dX12_readAct_131 (by decide) ?_
      exact hrc n_readAct_132 [x1, x2, 0] _ _ ((hB.2.2.1 c1).1 c2) mr mf
    · refine X_iload_n dX12_readAct_92 rfl ?_
      refine X_iconst dX12_readAct_93 (by decide) ?_
      refine X_icmp_ne dX12_readAct_94 (tgt := 113) rfl (fun c3 => ?_) (fun c3 => ?_)
      · refine X_aload_n dX12_readAct_113 rfl ?_
        refine X_getfield (ci := 12) (k := 22) (v := vr (a 22)) dX12_readAct_114 rfl (by decide) kf_RX12_53 (congrArg vr (MR.ar mr (k := 22) (by decide)).1) mr.1 ?_
        refine X_iconst dX12_readAct_117 (by decide) ?_
        refine X_iload_n dX12_readAct_118 rfl ?_
        refine X_imulN dX12_readAct_119 (((hB.2.2.1 c1).2 c2).1 c3).1 (((hB.2.2.1 c1).2 c2).1 c3).2.1 ?_
        refine X_iload_n dX12_readAct_120 rfl ?_
        refine X_iaddN dX12_readAct_121 (((hB.2.2.1 c1).2 c2).1 c3).2.2.1 (((hB.2.2.1 c1).2 c2).1 c3).2.2.2.1 ?_
        refine X_iaload dX12_readAct_122 ((MR.ar mr (k := 22) (by decide)).2.1.trans (by decide)) (((hB.2.2.1 c1).2 c2).1 c3).2.2.2.2.1 (lt_eq (((hB.2.2.1 c1).2 c2).1 c3).2.2.2.2.2.1 (MR.ln mr (k := 22) (by decide) (by decide))) ?_
        refine X_top (v := vi (M 22 ((4 * x1) + x2))) (congrArg vi (MR.el mr (k := 22) (by decide) rfl)) ?_
        refine X_iconst dX12_readAct_123 (by decide) ?_
        refine X_icmp_eq dX12_readAct_124 (tgt := 131) rfl (fun c4 => ?_) (fun c4 => ?_)
        · refine X_iconst dX12_readAct_131 (by decide) ?_
          exact hrc n_readAct_132 [x1, x2, 0] _ _ ((((hB.2.2.1 c1).2 c2).1 c3).2.2.2.2.2.2.1 c4) mr mf
        · refine X_iconst dX12_readAct_127 (by decide) ?_
          refine X_goto dX12_readAct_128 (tgt := 132) rfl ?_
          exact hrc n_readAct_132 [x1, x2, 1] _ _ ((((hB.2.2.1 c1).2 c2).1 c3).2.2.2.2.2.2.2 c4) mr mf
      · refine X_aload_n dX12_readAct_97 rfl ?_
        refine X_getfield (ci := 12) (k := 19) (v := vr (a 19)) dX12_readAct_98 rfl (by decide) kf_RX12_44 (congrArg vr (MR.ar mr (k := 19) (by decide)).1) mr.1 ?_
        refine X_iconst dX12_readAct_101 (by decide) ?_
        refine X_aload_n dX12_readAct_102 rfl ?_
        refine X_getfield (ci := 12) (k := 41) (v := vi (M 0 41)) dX12_readAct_103 rfl (by decide) kf_RX12_269 (congrArg vi (MR.in_ mr (k := 41) (by decide) rfl)) mr.1 ?_
        refine X_imulN dX12_readAct_106 (((hB.2.2.1 c1).2 c2).2 c3).1 (((hB.2.2.1 c1).2 c2).2 c3).2.1 ?_
        refine X_iload_n dX12_readAct_107 rfl ?_
        refine X_iaddN dX12_readAct_108 (((hB.2.2.1 c1).2 c2).2 c3).2.2.1 (((hB.2.2.1 c1).2 c2).2 c3).2.2.2.1 ?_
        refine X_iaload dX12_readAct_109 ((MR.ar mr (k := 19) (by decide)).2.1.trans (by decide)) (((hB.2.2.1 c1).2 c2).2 c3).2.2.2.2.1 (lt_eq (((hB.2.2.1 c1).2 c2).2 c3).2.2.2.2.2.1 (MR.ln mr (k := 19) (by decide) (by decide))) ?_
        refine X_top (v := vi (M 19 ((4 * (M 0 41)) + x2))) (congrArg vi (MR.el mr (k := 19) (by decide) rfl)) ?_
        refine X_goto dX12_readAct_110 (tgt := 123) rfl ?_
        refine X_iconst dX12_readAct_123 (by decide) ?_
        refine X_icmp_eq dX12_readAct_124 (tgt := 131) rfl (fun c5 => ?_) (fun c5 => ?_)
        · refine X_iconst dX12_readAct_131 (by decide) ?_
          exact hrc n_readAct_132 [x1, x2, 0] _ _ ((((hB.2.2.1 c1).2 c2).2 c3).2.2.2.2.2.2.1 c5) mr mf
        · refine X_iconst dX12_readAct_127 (by decide) ?_
          refine X_goto dX12_readAct_128 (tgt := 132) rfl ?_
          exact hrc n_readAct_132 [x1, x2, 1] _ _ ((((hB.2.2.1 c1).2 c2).2 c3).2.2.2.2.2.2.2 c5) mr mf
  · refine X_aload_n dX12_readAct_49 rfl ?_
    refine X_aload_n dX12_readAct_50 rfl ?_
    refine X_getfield (ci := 12) (k := 12) (v := vr (a 12)) dX12_readAct_51 rfl (by decide) kf_RX12_23 (congrArg vr (MR.ar mr (k := 12) (by decide)).1) mr.1 ?_
    refine X_iconst dX12_readAct_54 (by decide) ?_
    refine X_aload_n dX12_readAct_55 rfl ?_
    refine X_getfield (ci := 12) (k := 9) (v := vi (M 0 9)) dX12_readAct_56 rfl (by decide) kf_RX12_263 (congrArg vi (MR.in_ mr (k := 9) (by decide) rfl)) mr.1 ?_
    refine X_imulN dX12_readAct_59 (hB.2.2.2 c1).1 (hB.2.2.2 c1).2.1 ?_
    refine X_iload_n dX12_readAct_60 rfl ?_
    refine X_iaddN dX12_readAct_61 (hB.2.2.2 c1).2.2.1 (hB.2.2.2 c1).2.2.2.1 ?_
    refine X_iaload dX12_readAct_62 ((MR.ar mr (k := 12) (by decide)).2.1.trans (by decide)) (hB.2.2.2 c1).2.2.2.2.1 (lt_eq (hB.2.2.2 c1).2.2.2.2.2.1 (MR.ln mr (k := 12) (by decide) (by decide))) ?_
    refine X_top (v := vi (M 12 ((4 * (M 0 9)) + x2))) (congrArg vi (MR.el mr (k := 12) (by decide) rfl)) ?_
    refine X_aload_n dX12_readAct_63 rfl ?_
    refine X_invV (ci := 12) (as := []) (st := [vi (M 12 ((4 * (M 0 9)) + x2)), vr m]) okX12_nameHere dX12_readAct_64 km_RX12_294 rfl rfl (Nat.le_of_ble_eq_true rfl) rfl rfl mr.1 (CT.of d 0 0 (hcl n_nameHere_0 rfl [] _ _ _ (hB.2.2.2 c1).2.2.2.2.2.2 mr) (Nat.le_refl _) (Nat.zero_le _) (Nat.zero_le _) (fun z6 S6 V6 hq6 => ?_))
    obtain ⟨rfl, M6, hc7, mr6, hf6⟩ := hq6
    have mf6 := MF.trans mf hf6
    refine X_invV (ci := 12) (as := [vi (M 12 ((4 * (M 0 9)) + x2)), vi z6]) (st := []) okX12_isSame dX12_readAct_67 km_RX12_297 rfl rfl (Nat.le_of_ble_eq_true rfl) rfl rfl mr6.1 (CT.of d 0 0 (hcl n_isSame_0 rfl [M 12 ((4 * (M 0 9)) + x2), z6] _ _ _ hc7 mr6) (Nat.le_refl _) (Nat.zero_le _) (Nat.zero_le _) (fun z8 S8 V8 hq8 => ?_))
    obtain ⟨rfl, M8, hc9, mr8, hf8⟩ := hq8
    have mf8 := MF.trans mf6 hf8
    refine X_if_ne dX12_readAct_70 (tgt := 79) rfl (fun c10 => ?_) (fun c10 => ?_)
    · refine X_iload_n dX12_readAct_79 rfl ?_
      refine X_aload_n dX12_readAct_80 rfl ?_
      refine X_getfield (ci := 12) (k := 11) (v := vr (a 11)) dX12_readAct_81 rfl (by decide) kf_RX12_20 (congrArg vr (MR.ar mr8 (k := 11) (by decide)).1) mr8.1 ?_
      refine X_aload_n dX12_readAct_84 rfl ?_
      refine X_getfield (ci := 12) (k := 9) (v := vi (M8 0 9)) dX12_readAct_85 rfl (by decide) kf_RX12_263 (congrArg vi (MR.in_ mr8 (k := 9) (by decide) rfl)) mr8.1 ?_
      refine X_iaload dX12_readAct_88 ((MR.ar mr8 (k := 11) (by decide)).2.1.trans (by decide)) (hc9.1 c10).1 (lt_eq (hc9.1 c10).2.1 (MR.ln mr8 (k := 11) (by decide) (by decide))) ?_
      refine X_top (v := vi (M8 11 (M8 0 9))) (congrArg vi (MR.el mr8 (k := 11) (by decide) rfl)) ?_
      refine X_icmp_ge dX12_readAct_89 (tgt := 131) rfl (fun c11 => ?_) (fun c11 => ?_)
      · refine X_iconst dX12_readAct_131 (by decide) ?_
        exact hrc n_readAct_132 [x1, x2, 0] _ _ ((hc9.1 c10).2.2.1 c11) mr8 mf8
      · refine X_iload_n dX12_readAct_92 rfl ?_
        refine X_iconst dX12_readAct_93 (by decide) ?_
        refine X_icmp_ne dX12_readAct_94 (tgt := 113) rfl (fun c12 => ?_) (fun c12 => ?_)
        · refine X_aload_n dX12_readAct_113 rfl ?_
          refine X_getfield (ci := 12) (k := 22) (v := vr (a 22)) dX12_readAct_114 rfl (by decide) kf_RX12_53 (congrArg vr (MR.ar mr8 (k := 22) (by decide)).1) mr8.1 ?_
          refine X_iconst dX12_readAct_117 (by decide) ?_
          refine X_iload_n dX12_readAct_118 rfl ?_
          refine X_imulN dX12_readAct_119 (((hc9.1 c10).2.2.2 c11).1 c12).1 (((hc9.1 c10).2.2.2 c11).1 c12).2.1 ?_
          refine X_iload_n dX12_readAct_120 rfl ?_
          refine X_iaddN dX12_readAct_121 (((hc9.1 c10).2.2.2 c11).1 c12).2.2.1 (((hc9.1 c10).2.2.2 c11).1 c12).2.2.2.1 ?_
          refine X_iaload dX12_readAct_122 ((MR.ar mr8 (k := 22) (by decide)).2.1.trans (by decide)) (((hc9.1 c10).2.2.2 c11).1 c12).2.2.2.2.1 (lt_eq (((hc9.1 c10).2.2.2 c11).1 c12).2.2.2.2.2.1 (MR.ln mr8 (k := 22) (by decide) (by decide))) ?_
          refine X_top (v := vi (M8 22 ((4 * x1) + x2))) (congrArg vi (MR.el mr8 (k := 22) (by decide) rfl)) ?_
          refine X_iconst dX12_readAct_123 (by decide) ?_
          refine X_icmp_eq dX12_readAct_124 (tgt := 131) rfl (fun c13 => ?_) (fun c13 => ?_)
          · refine X_iconst dX12_readAct_131 (by decide) ?_
            exact hrc n_readAct_132 [x1, x2, 0] _ _ ((((hc9.1 c10).2.2.2 c11).1 c12).2.2.2.2.2.2.1 c13) mr8 mf8
          · refine X_iconst dX12_readAct_127 (by decide) ?_
            refine X_goto dX12_readAct_128 (tgt := 132) rfl ?_
            exact hrc n_readAct_132 [x1, x2, 1] _ _ ((((hc9.1 c10).2.2.2 c11).1 c12).2.2.2.2.2.2.2 c13) mr8 mf8
        · refine X_aload_n dX12_readAct_97 rfl ?_
          refine X_getfield (ci := 12) (k := 19) (v := vr (a 19)) dX12_readAct_98 rfl (by decide) kf_RX12_44 (congrArg vr (MR.ar mr8 (k := 19) (by decide)).1) mr8.1 ?_
          refine X_iconst dX12_readAct_101 (by decide) ?_
          refine X_aload_n dX12_readAct_102 rfl ?_
          refine X_getfield (ci := 12) (k := 41) (v := vi (M8 0 41)) dX12_readAct_103 rfl (by decide) kf_RX12_269 (congrArg vi (MR.in_ mr8 (k := 41) (by decide) rfl)) mr8.1 ?_
          refine X_imulN dX12_readAct_106 (((hc9.1 c10).2.2.2 c11).2 c12).1 (((hc9.1 c10).2.2.2 c11).2 c12).2.1 ?_
          refine X_iload_n dX12_readAct_107 rfl ?_
          refine X_iaddN dX12_readAct_108 (((hc9.1 c10).2.2.2 c11).2 c12).2.2.1 (((hc9.1 c10).2.2.2 c11).2 c12).2.2.2.1 ?_
          refine X_iaload dX12_readAct_109 ((MR.ar mr8 (k := 19) (by decide)).2.1.trans (by decide)) (((hc9.1 c10).2.2.2 c11).2 c12).2.2.2.2.1 (lt_eq (((hc9.1 c10).2.2.2 c11).2 c12).2.2.2.2.2.1 (MR.ln mr8 (k := 19) (by decide) (by decide))) ?_
          refine X_top (v := vi (M8 19 ((4 * (M8 0 41)) + x2))) (congrArg vi (MR.el mr8 (k := 19) (by decide) rfl)) ?_
          refine X_goto dX12_readAct_110 (tgt := 123) rfl ?_
          refine X_iconst dX12_readAct_123 (by decide) ?_
          refine X_icmp_eq dX12_readAct_124 (tgt := 131) rfl (fun c14 => ?_) (fun c14 => ?_)
          · refine X_iconst dX12_readAct_131 (by decide) ?_
            exact hrc n_readAct_132 [x1, x2, 0] _ _ ((((hc9.1 c10).2.2.2 c11).2 c12).2.2.2.2.2.2.1 c14) mr8 mf8
          · refine X_iconst dX12_readAct_127 (by decide) ?_
            refine X_goto dX12_readAct_128 (tgt := 132) rfl ?_
            exact hrc n_readAct_132 [x1, x2, 1] _ _ ((((hc9.1 c10).2.2.2 c11).2 c12).2.2.2.2.2.2.2 c14) mr8 mf8
    · refine X_iincN dX12_readAct_73 rfl (by decide) rfl (e := x2 + 1) rfl (hc9.2 c10).1 (hc9.2 c10).2.1 ?_
      refine X_goto dX12_readAct_76 (tgt := 36) rfl ?_
      exact hrc n_readAct_36 [x1, x2 + 1] _ _ (hc9.2 c10).2.2 mr8 mf8
def B_readAct_132 (rc : MP) (cl : MC) (Q : Int → Mem → Prop) (d : Nat) (x1 x2 y0 : Int) (M : Mem) : Prop := (y0 ≠ 0 → (y0 = 0 → cl n_fault_0 [5] M (fun z3 M3 => Q 0 M3)) ∧ (¬ (y0 = 0) → cl n_fault_0 [3] M (fun z5 M5 => Q 0 M5))) ∧ (¬ (y0 ≠ 0) → (x2 ≠ 4 → 0 ≤ (M 0 9) ∧ (M 0 9) < 10 ∧ (x2 ≠ (M 11 (M 0 9)) → cl n_next_0 [] M (fun z9 M9 => cl n_sign_0 [61] M9 (fun z11 M11 => (x1 = (-1) → rc n_readAct_224 [x1, x2, y0, 1, 1, 0] M11) ∧ (¬ (x1 = (-1)) → rc n_readAct_224 [x1, x2, y0, 1, 1, 1] M11)))) ∧ (¬ (x2 ≠ (M 11 (M 0 9))) → -2147483648 ≤ 4 * (M 0 9) ∧ 4 * (M 0 9) ≤ 2147483647 ∧ -2147483648 ≤ (4 * (M 0 9)) + x2 ∧ (4 * (M 0 9)) + x2 ≤ 2147483647 ∧ cl n_nameHere_0 [] M (fun z14 M14 => 0 ≤ ((4 * (M 0 9)) + x2) ∧ ((4 * (M 0 9)) + x2) < 40 ∧ 0 ≤ (M14 0 9) ∧ (M14 0 9) < 10 ∧ -2147483648 ≤ (M14 11 (M14 0 9)) + 1 ∧ (M14 11 (M14 0 9)) + 1 ≤ 2147483647 ∧ cl n_next_0 [] (up (up M14 12 ((4 * (M 0 9)) + x2) z14) 11 (M14 0 9) ((M14 11 (M14 0 9)) + 1)) (fun z16 M16 => cl n_sign_0 [61] M16 (fun z18 M18 => (x1 = (-1) → rc n_readAct_224 [x1, x2, y0, 1, 1, 0] M18) ∧ (¬ (x1 = (-1)) → rc n_readAct_224 [x1, x2, y0, 1, 1, 1] M18)))))) ∧ (¬ (x2 ≠ 4) → (y0 = 0 → cl n_fault_0 [5] M (fun z22 M22 => Q 0 M22)) ∧ (¬ (y0 = 0) → cl n_fault_0 [3] M (fun z24 M24 => Q 0 M24))))
set_option maxRecDepth 10000 in
theorem s_readAct_132 {l : Launch} {G : GT} {m : Int} {a : Int → Int} {d mc ms : Nat} {S : Sh} {Q : Int → Mem → Prop} {rc : MP} {cl : MC} {V0 V M : Mem} {x1 x2 y0 : Int} (hrc : RCok l G m a S V0 Q d mc ms rc) (hcl : CLok l G m a S d cl) (mr : MR m a S V M) (mf : MF m a V0 V) (hB : B_readAct_132 rc cl Q d x1 x2 y0 M) : XJ l G bX12_readAct (Qm m a S V0 Q) (d + 1) 132 [vr m, vi x1, vi x2, vu, vu] [vi y0] S V mc ms := by
  unfold B_readAct_132 at hB
  refine X_istore_n dX12_readAct_132 (by decide) rfl ?_
  refine X_iload_n dX12_readAct_133 rfl ?_
  refine X_if_ne dX12_readAct_134 (tgt := 142) rfl (fun c1 => ?_) (fun c1 => ?_)
  · refine X_aload_n dX12_readAct_142 rfl ?_
    refine X_iload_n dX12_readAct_143 rfl ?_
    refine X_if_eq dX12_readAct_144 (tgt := 151) rfl (fun c2 => ?_) (fun c2 => ?_)
    · refine X_iconst dX12_readAct_151 (by decide) ?_
      refine X_invV (ci := 12) (as := [vi 5]) (st := []) okX12_fault dX12_readAct_152 km_RX12_288 rfl rfl (Nat.le_of_ble_eq_true rfl) rfl rfl mr.1 (CT.of d 0 0 (hcl n_fault_0 rfl [5] _ _ _ ((hB.1 c1).1 c2) mr) (Nat.le_refl _) (Nat.zero_le _) (Nat.zero_le _) (fun z3 S3 V3 hq3 => ?_))
      obtain ⟨rfl, M3, hc4, mr3, hf3⟩ := hq3
      have mf3 := MF.trans mf hf3
      refine X_istore dX12_readAct_155 (by decide) rfl ?_
      exact X_ret (z := 0) dX12_readAct_157 rfl (fun _ => trivial) ⟨rfl, _, hc4, mr3, mf3⟩
    · refine X_iconst dX12_readAct_147 (by decide) ?_
      refine X_goto dX12_readAct_148 (tgt := 152) rfl ?_
      refine X_invV (ci := 12) (as := [vi 3]) (st := []) okX12_fault dX12_readAct_152 km_RX12_288 rfl rfl (Nat.le_of_ble_eq_true rfl) rfl rfl mr.1 (CT.of d 0 0 (hcl n_fault_0 rfl [3] _ _ _ ((hB.1 c1).2 c2) mr) (Nat.le_refl _) (Nat.zero_le _) (Nat.zero_le _) (fun z5 S5 V5 hq5 => ?_))
      obtain ⟨rfl, M5, hc6, mr5, hf5⟩ := hq5
      have mf5 := MF.trans mf hf5
      refine X_istore dX12_readAct_155 (by decide) rfl ?_
      exact X_ret (z := 0) dX12_readAct_157 rfl (fun _ => trivial) ⟨rfl, _, hc6, mr5, mf5⟩
  · refine X_iload_n dX12_readAct_137 rfl ?_
    refine X_iconst dX12_readAct_138 (by decide) ?_
    refine X_icmp_ne dX12_readAct_139 (tgt := 158) rfl (fun c7 => ?_) (fun c7 => ?_)
    · refine X_iload_n dX12_readAct_158 rfl ?_
      refine X_aload_n dX12_readAct_159 rfl ?_
      refine X_getfield (ci := 12) (k := 11) (v := vr (a 11)) dX12_readAct_160 rfl (by decide) kf_RX12_20 (congrArg vr (MR.ar mr (k := 11) (by decide)).1) mr.1 ?_
      refine X_aload_n dX12_readAct_163 rfl ?_
      refine X_getfield (ci := 12) (k := 9) (v := vi (M 0 9)) dX12_readAct_164 rfl (by decide) kf_RX12_263 (congrArg vi (MR.in_ mr (k := 9) (by decide) rfl)) mr.1 ?_
      refine X_iaload dX12_readAct_167 ((MR.ar mr (k := 11) (by decide)).2.1.trans (by decide)) ((hB.2 c1).1 c7).1 (lt_eq ((hB.2 c1).1 c7).2.1 (MR.ln mr (k := 11) (by decide) (by decide))) ?_
      refine X_top (v := vi (M 11 (M 0 9))) (congrArg vi (MR.el mr (k := 11) (by decide) rfl)) ?_
      refine X_icmp_ne dX12_readAct_168 (tgt := 201) rfl (fun c8 => ?_) (fun c8 => ?_)
      · refine X_aload_n dX12_readAct_201 rfl ?_
        refine X_invV (ci := 12) (as := []) (st := []) okX12_next dX12_readAct_202 km_RX12_285 rfl rfl (Nat.le_of_ble_eq_true rfl) rfl rfl mr.1 (CT.of d 0 0 (hcl n_next_0 rfl [] _ _ _ (((hB.2 c1).1 c7).2.2.1 c8) mr) (Nat.le_refl _) (Nat.zero_le _) (Nat.zero_le _) (fun z9 S9 V9 hq9 => ?_))
        obtain ⟨rfl, M9, hc10, mr9, hf9⟩ := hq9
        have mf9 := MF.trans mf hf9
        refine X_aload_n dX12_readAct_205 rfl ?_
        refine X_bipush dX12_readAct_206 (by decide) (by decide) ?_
        refine X_invV (ci := 12) (as := [vi 61]) (st := []) okX12_sign dX12_readAct_208 km_RX12_318 rfl rfl (Nat.le_of_ble_eq_true rfl) rfl rfl mr9.1 (CT.of d 0 0 (hcl n_sign_0 rfl [61] _ _ _ hc10 mr9) (Nat.le_refl _) (Nat.zero_le _) (Nat.zero_le _) (fun z11 S11 V11 hq11 => ?_))
        obtain ⟨rfl, M11, hc12, mr11, hf11⟩ := hq11
        have mf11 := MF.trans mf9 hf11
        refine X_aload_n dX12_readAct_211 rfl ?_
        refine X_iconst dX12_readAct_212 (by decide) ?_
        refine X_iconst dX12_readAct_213 (by decide) ?_
        refine X_iload_n dX12_readAct_214 rfl ?_
        refine X_iconst dX12_readAct_215 (by decide) ?_
        refine X_icmp_eq dX12_readAct_216 (tgt := 223) rfl (fun c13 => ?_) (fun c13 => ?_)
        · refine X_iconst dX12_readAct_223 (by decide) ?_
          exact hrc n_readAct_224 [x1, x2, y0, 1, 1, 0] _ _ (hc12.1 c13) mr11 mf11
        · refine X_iconst dX12_readAct_219 (by decide) ?_
          refine X_goto dX12_readAct_220 (tgt := 224) rfl ?_
          exact hrc n_readAct_224 [x1, x2, y0, 1, 1, 1] _ _ (hc12.2 c13) mr11 mf11
      · refine X_aload_n dX12_readAct_171 rfl ?_
        refine X_getfield (ci := 12) (k := 12) (v := vr (a 12)) dX12_readAct_172 rfl (by decide) kf_RX12_23 (congrArg vr (MR.ar mr (k := 12) (by decide)).1) mr.1 ?_
        refine X_iconst dX12_readAct_175 (by decide) ?_
        refine X_aload_n dX12_readAct_176 rfl ?_
        refine X_getfield (ci := 12) (k := 9) (v := vi (M 0 9)) dX12_readAct_177 rfl (by decide) kf_RX12_263 (congrArg vi (MR.in_ mr (k := 9) (by decide) rfl)) mr.1 ?_
        refine X_imulN dX12_readAct_180 (((hB.2 c1).1 c7).2.2.2 c8).1 (((hB.2 c1).1 c7).2.2.2 c8).2.1 ?_
        refine X_iload_n dX12_readAct_181 rfl ?_
        refine X_iaddN dX12_readAct_182 (((hB.2 c1).1 c7).2.2.2 c8).2.2.1 (((hB.2 c1).1 c7).2.2.2 c8).2.2.2.1 ?_
        refine X_aload_n dX12_readAct_183 rfl ?_
        refine X_invV (ci := 12) (as := []) (st := [vi ((4 * (M 0 9)) + x2), vr (a 12)]) okX12_nameHere dX12_readAct_184 km_RX12_294 rfl rfl (Nat.le_of_ble_eq_true rfl) rfl rfl mr.1 (CT.of d 0 0 (hcl n_nameHere_0 rfl [] _ _ _ (((hB.2 c1).1 c7).2.2.2 c8).2.2.2.2 mr) (Nat.le_refl _) (Nat.zero_le _) (Nat.zero_le _) (fun z14 S14 V14 hq14 => ?_))
        obtain ⟨rfl, M14, hc15, mr14, hf14⟩ := hq14
        have mf14 := MF.trans mf hf14
        refine X_iastore dX12_readAct_187 ((MR.ar mr14 (k := 12) (by decide)).2.1.trans (by decide)) hc15.1 (lt_eq hc15.2.1 (MR.ln mr14 (k := 12) (by decide) (by decide))) ?_
        refine X_aload_n dX12_readAct_188 rfl ?_
        refine X_getfield (ci := 12) (k := 11) (v := vr (a 11)) dX12_readAct_189 rfl (by decide) kf_RX12_20 (congrArg vr (MR.ar (MR.putA mr14 (k := 12) (j := (4 * (M 0 9)) + x2) (z := z14) (by decide)) (k := 11) (by decide)).1) (MR.putA mr14 (k := 12) (j := (4 * (M 0 9)) + x2) (z := z14) (by decide)).1 ?_
        refine X_aload_n dX12_readAct_192 rfl ?_
        refine X_getfield (ci := 12) (k := 9) (v := vi (M14 0 9)) dX12_readAct_193 rfl (by decide) kf_RX12_263 (congrArg vi (MR.in_ (MR.putA mr14 (k := 12) (j := (4 * (M 0 9)) + x2) (z := z14) (by decide)) (k := 9) (by decide) (up_ne (Or.inl (by decide))))) (MR.putA mr14 (k := 12) (j := (4 * (M 0 9)) + x2) (z := z14) (by decide)).1 ?_
        refine X_dup2 dX12_readAct_196 rfl (rv_cat _) ?_
        refine X_iaload dX12_readAct_197 ((MR.ar (MR.putA mr14 (k := 12) (j := (4 * (M 0 9)) + x2) (z := z14) (by decide)) (k := 11) (by decide)).2.1.trans (by decide)) hc15.2.2.1 (lt_eq hc15.2.2.2.1 (MR.ln (MR.putA mr14 (k := 12) (j := (4 * (M 0 9)) + x2) (z := z14) (by decide)) (k := 11) (by decide) (by decide))) ?_
        refine X_top (v := vi (M14 11 (M14 0 9))) (congrArg vi (MR.el (MR.putA mr14 (k := 12) (j := (4 * (M 0 9)) + x2) (z := z14) (by decide)) (k := 11) (by decide) (up_ne (Or.inl (by decide))))) ?_
        refine X_iconst dX12_readAct_198 (by decide) ?_
        refine X_iaddN dX12_readAct_199 hc15.2.2.2.2.1 hc15.2.2.2.2.2.1 ?_
        refine X_iastore dX12_readAct_200 ((MR.ar (MR.putA mr14 (k := 12) (j := (4 * (M 0 9)) + x2) (z := z14) (by decide)) (k := 11) (by decide)).2.1.trans (by decide)) hc15.2.2.1 (lt_eq hc15.2.2.2.1 (MR.ln (MR.putA mr14 (k := 12) (j := (4 * (M 0 9)) + x2) (z := z14) (by decide)) (k := 11) (by decide) (by decide))) ?_
        refine X_aload_n dX12_readAct_201 rfl ?_
        refine X_invV (ci := 12) (as := []) (st := []) okX12_next dX12_readAct_202 km_RX12_285 rfl rfl (Nat.le_of_ble_eq_true rfl) rfl rfl (MR.putA (MR.putA mr14 (k := 12) (j := (4 * (M 0 9)) + x2) (z := z14) (by decide)) (k := 11) (j := M14 0 9) (z := (M14 11 (M14 0 9)) + 1) (by decide)).1 (CT.of d 0 0 (hcl n_next_0 rfl [] _ _ _ hc15.2.2.2.2.2.2 (MR.putA (MR.putA mr14 (k := 12) (j := (4 * (M 0 9)) + x2) (z := z14) (by decide)) (k := 11) (j := M14 0 9) (z := (M14 11 (M14 0 9)) + 1) (by decide))) (Nat.le_refl _) (Nat.zero_le _) (Nat.zero_le _) (fun z16 S16 V16 hq16 => ?_))
        obtain ⟨rfl, M16, hc17, mr16, hf16⟩ := hq16
        have mf16 := MF.trans (MF.putA (MF.putA mf14 (k := 12) (j := (4 * (M 0 9)) + x2) (z := z14) (by decide)) (k := 11) (j := M14 0 9) (z := (M14 11 (M14 0 9)) + 1) (by decide)) hf16
        refine X_aload_n dX12_readAct_205 rfl ?_
        refine X_bipush dX12_readAct_206 (by decide) (by decide) ?_
        refine X_invV (ci := 12) (as := [vi 61]) (st := []) okX12_sign dX12_readAct_208 km_RX12_318 rfl rfl (Nat.le_of_ble_eq_true rfl) rfl rfl mr16.1 (CT.of d 0 0 (hcl n_sign_0 rfl [61] _ _ _ hc17 mr16) (Nat.le_refl _) (Nat.zero_le _) (Nat.zero_le _) (fun z18 S18 V18 hq18 => ?_))
        obtain ⟨rfl, M18, hc19, mr18, hf18⟩ := hq18
        have mf18 := MF.trans mf16 hf18
        refine X_aload_n dX12_readAct_211 rfl ?_
        refine X_iconst dX12_readAct_212 (by decide) ?_
        refine X_iconst dX12_readAct_213 (by decide) ?_
        refine X_iload_n dX12_readAct_214 rfl ?_
        refine X_iconst dX12_readAct_215 (by decide) ?_
        refine X_icmp_eq dX12_readAct_216 (tgt := 223) rfl (fun c20 => ?_) (fun c20 => ?_)
        · refine X_iconst dX12_readAct_223 (by decide) ?_
          exact hrc n_readAct_224 [x1, x2, y0, 1, 1, 0] _ _ (hc19.1 c20) mr18 mf18
        · refine X_iconst dX12_readAct_219 (by decide) ?_
          refine X_goto dX12_readAct_220 (tgt := 224) rfl ?_
          exact hrc n_readAct_224 [x1, x2, y0, 1, 1, 1] _ _ (hc19.2 c20) mr18 mf18
    · refine X_aload_n dX12_readAct_142 rfl ?_
      refine X_iload_n dX12_readAct_143 rfl ?_
      refine X_if_eq dX12_readAct_144 (tgt := 151) rfl (fun c21 => ?_) (fun c21 => ?_)
      · refine X_iconst dX12_readAct_151 (by decide) ?_
        refine X_invV (ci := 12) (as := [vi 5]) (st := []) okX12_fault dX12_readAct_152 km_RX12_288 rfl rfl (Nat.le_of_ble_eq_true rfl) rfl rfl mr.1 (CT.of d 0 0 (hcl n_fault_0 rfl [5] _ _ _ (((hB.2 c1).2 c7).1 c21) mr) (Nat.le_refl _) (Nat.zero_le _) (Nat.zero_le _) (fun z22 S22 V22 hq22 => ?_))
        obtain ⟨rfl, M22, hc23, mr22, hf22⟩ := hq22
        have mf22 := MF.trans mf hf22
        refine X_istore dX12_readAct_155 (by decide) rfl ?_
        exact X_ret (z := 0) dX12_readAct_157 rfl (fun _ => trivial) ⟨rfl, _, hc23, mr22, mf22⟩
      · refine X_iconst dX12_readAct_147 (by decide) ?_
        refine X_goto dX12_readAct_148 (tgt := 152) rfl ?_
        refine X_invV (ci := 12) (as := [vi 3]) (st := []) okX12_fault dX12_readAct_152 km_RX12_288 rfl rfl (Nat.le_of_ble_eq_true rfl) rfl rfl mr.1 (CT.of d 0 0 (hcl n_fault_0 rfl [3] _ _ _ (((hB.2 c1).2 c7).2 c21) mr) (Nat.le_refl _) (Nat.zero_le _) (Nat.zero_le _) (fun z24 S24 V24 hq24 => ?_))
        obtain ⟨rfl, M24, hc25, mr24, hf24⟩ := hq24
        have mf24 := MF.trans mf hf24
        refine X_istore dX12_readAct_155 (by decide) rfl ?_
        exact X_ret (z := 0) dX12_readAct_157 rfl (fun _ => trivial) ⟨rfl, _, hc25, mr24, mf24⟩
def B_readAct_224 (rc : MP) (cl : MC) (Q : Int → Mem → Prop) (d : Nat) (x1 x2 x3 y1 y2 y3 : Int) (M : Mem) : Prop := cl n_readExpr_0 [y1, y2, y3] M (fun z1 M1 => cl n_sign_0 [59] M1 (fun z3 M3 => (x1 ≠ (-1) → -2147483648 ≤ 4 * x1 ∧ 4 * x1 ≤ 2147483647 ∧ -2147483648 ≤ (4 * x1) + x2 ∧ (4 * x1) + x2 ≤ 2147483647 ∧ 0 ≤ ((4 * x1) + x2) ∧ ((4 * x1) + x2) < 11520 ∧ Q 0 (up M3 22 ((4 * x1) + x2) z1)) ∧ (¬ (x1 ≠ (-1)) → -2147483648 ≤ 4 * (M3 0 41) ∧ 4 * (M3 0 41) ≤ 2147483647 ∧ -2147483648 ≤ (4 * (M3 0 41)) + x2 ∧ (4 * (M3 0 41)) + x2 ≤ 2147483647 ∧ 0 ≤ ((4 * (M3 0 41)) + x2) ∧ ((4 * (M3 0 41)) + x2) < 480 ∧ Q 0 (up M3 19 ((4 * (M3 0 41)) + x2) z1))))
set_option maxRecDepth 10000 in
theorem s_readAct_224 {l : Launch} {G : GT} {m : Int} {a : Int → Int} {d mc ms : Nat} {S : Sh} {Q : Int → Mem → Prop} {rc : MP} {cl : MC} {V0 V M : Mem} {x1 x2 x3 y1 y2 y3 : Int} (hrc : RCok l G m a S V0 Q d mc ms rc) (hcl : CLok l G m a S d cl) (mr : MR m a S V M) (mf : MF m a V0 V) (hB : B_readAct_224 rc cl Q d x1 x2 x3 y1 y2 y3 M) : XJ l G bX12_readAct (Qm m a S V0 Q) (d + 1) 224 [vr m, vi x1, vi x2, vi x3, vu] [vi y3, vi y2, vi y1, vr m] S V mc ms := by
  unfold B_readAct_224 at hB
  refine X_invV (ci := 12) (as := [vi y1, vi y2, vi y3]) (st := []) okX12_readExpr dX12_readAct_224 km_RX12_331 rfl rfl (Nat.le_of_ble_eq_true rfl) rfl rfl mr.1 (CT.of d 0 0 (hcl n_readExpr_0 rfl [y1, y2, y3] _ _ _ hB mr) (Nat.le_refl _) (Nat.zero_le _) (Nat.zero_le _) (fun z1 S1 V1 hq1 => ?_))
  obtain ⟨rfl, M1, hc2, mr1, hf1⟩ := hq1
  have mf1 := MF.trans mf hf1
  refine X_istore dX12_readAct_227 (by decide) rfl ?_
  refine X_aload_n dX12_readAct_229 rfl ?_
  refine X_bipush dX12_readAct_230 (by decide) (by decide) ?_
  refine X_invV (ci := 12) (as := [vi 59]) (st := []) okX12_sign dX12_readAct_232 km_RX12_318 rfl rfl (Nat.le_of_ble_eq_true rfl) rfl rfl mr1.1 (CT.of d 0 0 (hcl n_sign_0 rfl [59] _ _ _ hc2 mr1) (Nat.le_refl _) (Nat.zero_le _) (Nat.zero_le _) (fun z3 S3 V3 hq3 => ?_))
  obtain ⟨rfl, M3, hc4, mr3, hf3⟩ := hq3
  have mf3 := MF.trans mf1 hf3
  refine X_iload_n dX12_readAct_235 rfl ?_
  refine X_iconst dX12_readAct_236 (by decide) ?_
  refine X_icmp_ne dX12_readAct_237 (tgt := 258) rfl (fun c5 => ?_) (fun c5 => ?_)
  · refine X_aload_n dX12_readAct_258 rfl ?_
    refine X_getfield (ci := 12) (k := 22) (v := vr (a 22)) dX12_readAct_259 rfl (by decide) kf_RX12_53 (congrArg vr (MR.ar mr3 (k := 22) (by decide)).1) mr3.1 ?_
    refine X_iconst dX12_readAct_262 (by decide) ?_
    refine X_iload_n dX12_readAct_263 rfl ?_
    refine X_imulN dX12_readAct_264 (hc4.1 c5).1 (hc4.1 c5).2.1 ?_
    refine X_iload_n dX12_readAct_265 rfl ?_
    refine X_iaddN dX12_readAct_266 (hc4.1 c5).2.2.1 (hc4.1 c5).2.2.2.1 ?_
    refine X_iload dX12_readAct_267 rfl ?_
    refine X_iastore dX12_readAct_269 ((MR.ar mr3 (k := 22) (by decide)).2.1.trans (by decide)) (hc4.1 c5).2.2.2.2.1 (lt_eq (hc4.1 c5).2.2.2.2.2.1 (MR.ln mr3 (k := 22) (by decide) (by decide))) ?_
    exact X_ret (z := 0) dX12_readAct_270 rfl (fun _ => trivial) ⟨rfl, _, (hc4.1 c5).2.2.2.2.2.2, (MR.putA mr3 (k := 22) (j := (4 * x1) + x2) (z := z1) (by decide)), (MF.putA mf3 (k := 22) (j := (4 * x1) + x2) (z := z1) (by decide))⟩
  · refine X_aload_n dX12_readAct_240 rfl ?_
    refine X_getfield (ci := 12) (k := 19) (v := vr (a 19)) dX12_readAct_241 rfl (by decide) kf_RX12_44 (congrArg vr (MR.ar mr3 (k := 19) (by decide)).1) mr3.1 ?_
    refine X_iconst dX12_readAct_244 (by decide) ?_
    refine X_aload_n dX12_readAct_245 rfl ?_
    refine X_getfield (ci := 12) (k := 41) (v := vi (M3 0 41)) dX12_readAct_246 rfl (by decide) kf_RX12_269 (congrArg vi (MR.in_ mr3 (k := 41) (by decide) rfl)) mr3.1 ?_
    refine X_imulN dX12_readAct_249 (hc4.2 c5).1 (hc4.2 c5).2.1 ?_
    refine X_iload_n dX12_readAct_250 rfl ?_
    refine X_iaddN dX12_readAct_251 (hc4.2 c5).2.2.1 (hc4.2 c5).2.2.2.1 ?_
    refine X_iload dX12_readAct_252 rfl ?_
    refine X_iastore dX12_readAct_254 ((MR.ar mr3 (k := 19) (by decide)).2.1.trans (by decide)) (hc4.2 c5).2.2.2.2.1 (lt_eq (hc4.2 c5).2.2.2.2.2.1 (MR.ln mr3 (k := 19) (by decide) (by decide))) ?_
    refine X_goto dX12_readAct_255 (tgt := 270) rfl ?_
    exact X_ret (z := 0) dX12_readAct_270 rfl (fun _ => trivial) ⟨rfl, _, (hc4.2 c5).2.2.2.2.2.2, (MR.putA mr3 (k := 19) (j := (4 * (M3 0 41)) + x2) (z := z1) (by decide)), (MF.putA mf3 (k := 19) (j := (4 * (M3 0 41)) + x2) (z := z1) (by decide))⟩
def B_readMember_0 (rc : MP) (cl : MC) (Q : Int → Mem → Prop) (d : Nat) (M : Mem) : Prop := cl n_isWord_0 [5] M (fun z1 M1 => (z1 = 0 → cl n_isWord_0 [6] M1 (fun z4 M4 => (z4 = 0 → cl n_isWord_0 [7] M4 (fun z7 M7 => (z7 = 0 → cl n_isWord_0 [8] M7 (fun z10 M10 => (z10 = 0 → cl n_isWord_0 [9] M10 (fun z13 M13 => (z13 = 0 → cl n_fault_0 [2] M13 (fun z16 M16 => Q 0 M16)) ∧ (¬ (z13 = 0) → cl n_readSwitch_0 [] M13 (fun z18 M18 => Q 0 M18)))) ∧ (¬ (z10 = 0) → 0 ≤ (M10 0 41) ∧ (M10 0 41) < 120 ∧ ((M10 17 (M10 0 41)) ≠ 4 → cl n_next_0 [] M10 (fun z21 M21 => cl n_tells_0 [] M21 (fun z23 M23 => cl n_newName_0 [z23] M23 (fun z25 M25 => ((M25 0 46) ≤ 0 → -2147483648 ≤ 4 * (M25 0 41) ∧ 4 * (M25 0 41) ≤ 2147483647 ∧ 0 ≤ (M25 0 41) ∧ (M25 0 41) < 120 ∧ -2147483648 ≤ (4 * (M25 0 41)) + (M25 17 (M25 0 41)) ∧ (4 * (M25 0 41)) + (M25 17 (M25 0 41)) ≤ 2147483647 ∧ 0 ≤ ((4 * (M25 0 41)) + (M25 17 (M25 0 41))) ∧ ((4 * (M25 0 41)) + (M25 17 (M25 0 41))) < 480 ∧ -2147483648 ≤ (M25 17 (M25 0 41)) + 1 ∧ (M25 17 (M25 0 41)) + 1 ≤ 2147483647 ∧ cl n_next_0 [] (up (up M25 27 ((4 * (M25 0 41)) + (M25 17 (M25 0 41))) z25) 17 (M25 0 41) ((M25 17 (M25 0 41)) + 1)) (fun z28 M28 => cl n_sign_0 [61] M28 (fun z30 M30 => cl n_readExpr_0 [0, 0, 0] M30 (fun z32 M32 => 0 ≤ ((4 * (M25 0 41)) + (M25 17 (M25 0 41))) ∧ ((4 * (M25 0 41)) + (M25 17 (M25 0 41))) < 480 ∧ cl n_sign_0 [59] (up M32 28 ((4 * (M25 0 41)) + (M25 17 (M25 0 41))) z32) (fun z34 M34 => Q 0 M34))))) ∧ (¬ ((M25 0 46) ≤ 0) → Q 0 M25))))) ∧ (¬ ((M10 17 (M10 0 41)) ≠ 4) → cl n_fault_0 [5] M10 (fun z36 M36 => Q 0 M36))))) ∧ (¬ (z7 = 0) → 0 ≤ (M7 0 41) ∧ (M7 0 41) < 120 ∧ ((M7 16 (M7 0 41)) ≠ 3 → cl n_next_0 [] M7 (fun z39 M39 => -2147483648 ≤ 3 * (M39 0 41) ∧ 3 * (M39 0 41) ≤ 2147483647 ∧ 0 ≤ (M39 0 41) ∧ (M39 0 41) < 120 ∧ -2147483648 ≤ (3 * (M39 0 41)) + (M39 16 (M39 0 41)) ∧ (3 * (M39 0 41)) + (M39 16 (M39 0 41)) ≤ 2147483647 ∧ cl n_readExpr_0 [0, 0, 0] M39 (fun z41 M41 => 0 ≤ ((3 * (M39 0 41)) + (M39 16 (M39 0 41))) ∧ ((3 * (M39 0 41)) + (M39 16 (M39 0 41))) < 360 ∧ 0 ≤ (M41 0 41) ∧ (M41 0 41) < 120 ∧ -2147483648 ≤ (M41 16 (M41 0 41)) + 1 ∧ (M41 16 (M41 0 41)) + 1 ≤ 2147483647 ∧ cl n_sign_0 [59] (up (up M41 26 ((3 * (M39 0 41)) + (M39 16 (M39 0 41))) z41) 16 (M41 0 41) ((M41 16 (M41 0 41)) + 1)) (fun z43 M43 => Q 0 M43)))) ∧ (¬ ((M7 16 (M7 0 41)) ≠ 3) → cl n_fault_0 [5] M7 (fun z45 M45 => Q 0 M45))))) ∧ (¬ (z4 = 0) → cl n_readTable_0 [] M4 (fun z47 M47 => Q 0 M47)))) ∧ (¬ (z1 = 0) → cl n_readAct_0 [(-1)] M1 (fun z49 M49 => Q 0 M49)))
set_option maxRecDepth 10000 in
theorem s_readMember_0 {l : Launch} {G : GT} {m : Int} {a : Int → Int} {d mc ms : Nat} {S : Sh} {Q : Int → Mem → Prop} {rc : MP} {cl : MC} {V0 V M : Mem} (hrc : RCok l G m a S V0 Q d mc ms rc) (hcl : CLok l G m a S d cl) (mr : MR m a S V M) (mf : MF m a V0 V) (hB : B_readMember_0 rc cl Q d  M) : XJ l G bX12_readMember (Qm m a S V0 Q) (d + 1) 0 [vr m, vu, vu] [] S V mc ms := by
  unfold B_readMember_0 at hB
  refine X_aload_n dX12_readMember_0 rfl ?_
  refine X_ldcS (i := 5) dX12_readMember_1 (by decide) ⟨rfl, rfl⟩ ?_
  refine X_invV (ci := 12) (as := [vr ((G.2.2.2.1 5 : Int) + 1)]) (st := []) okX12_isWord dX12_readMember_3 km_RX12_235 rfl rfl (Nat.le_of_ble_eq_true rfl) rfl rfl mr.1 (CT.of d 0 0 (hcl n_isWord_0 rfl [5] _ _ _ hB mr) (Nat.le_refl _) (Nat.zero_le _) (Nat.zero_le _) (fun z1 S1 V1 hq1 => ?_))
  obtain ⟨rfl, M1, hc2, mr1, hf1⟩ := hq1
  have mf1 := MF.trans mf hf1
  refine X_if_eq dX12_readMember_6 (tgt := 17) rfl (fun c3 => ?_) (fun c3 => ?_)
  · refine X_aload_n dX12_readMember_17 rfl ?_
    refine X_ldcS (i := 6) dX12_readMember_18 (by decide) ⟨rfl, rfl⟩ ?_
    refine X_invV (ci := 12) (as := [vr ((G.2.2.2.1 6 : Int) + 1)]) (st := []) okX12_isWord dX12_readMember_20 km_RX12_235 rfl rfl (Nat.le_of_ble_eq_true rfl) rfl rfl mr1.1 (CT.of d 0 0 (hcl n_isWord_0 rfl [6] _ _ _ (hc2.1 c3) mr1) (Nat.le_refl _) (Nat.zero_le _) (Nat.zero_le _) (fun z4 S4 V4 hq4 => ?_))
    obtain ⟨rfl, M4, hc5, mr4, hf4⟩ := hq4
    have mf4 := MF.trans mf1 hf4
    refine X_if_eq dX12_readMember_23 (tgt := 33) rfl (fun c6 => ?_) (fun c6 => ?_)
    · refine X_aload_n dX12_readMember_33 rfl ?_
      refine X_ldcS (i := 7) dX12_readMember_34 (by decide) ⟨rfl, rfl⟩ ?_
      refine X_invV (ci := 12) (as := [vr ((G.2.2.2.1 7 : Int) + 1)]) (st := []) okX12_isWord dX12_readMember_36 km_RX12_235 rfl rfl (Nat.le_of_ble_eq_true rfl) rfl rfl mr4.1 (CT.of d 0 0 (hcl n_isWord_0 rfl [7] _ _ _ (hc5.1 c6) mr4) (Nat.le_refl _) (Nat.zero_le _) (Nat.zero_le _) (fun z7 S7 V7 hq7 => ?_))
      obtain ⟨rfl, M7, hc8, mr7, hf7⟩ := hq7
      have mf7 := MF.trans mf4 hf7
      refine X_if_eq dX12_readMember_39 (tgt := 116) rfl (fun c9 => ?_) (fun c9 => ?_)
      · refine X_aload_n dX12_readMember_116 rfl ?_
        refine X_ldcS (i := 8) dX12_readMember_117 (by decide) ⟨rfl, rfl⟩ ?_
        refine X_invV (ci := 12) (as := [vr ((G.2.2.2.1 8 : Int) + 1)]) (st := []) okX12_isWord dX12_readMember_119 km_RX12_235 rfl rfl (Nat.le_of_ble_eq_true rfl) rfl rfl mr7.1 (CT.of d 0 0 (hcl n_isWord_0 rfl [8] _ _ _ (hc8.1 c9) mr7) (Nat.le_refl _) (Nat.zero_le _) (Nat.zero_le _) (fun z10 S10 V10 hq10 => ?_))
        obtain ⟨rfl, M10, hc11, mr10, hf10⟩ := hq10
        have mf10 := MF.trans mf7 hf10
        refine X_if_eq dX12_readMember_122 (tgt := 235) rfl (fun c12 => ?_) (fun c12 => ?_)
        · refine X_aload_n dX12_readMember_235 rfl ?_
          refine X_ldcS (i := 9) dX12_readMember_236 (by decide) ⟨rfl, rfl⟩ ?_
          refine X_invV (ci := 12) (as := [vr ((G.2.2.2.1 9 : Int) + 1)]) (st := []) okX12_isWord dX12_readMember_238 km_RX12_235 rfl rfl (Nat.le_of_ble_eq_true rfl) rfl rfl mr10.1 (CT.of d 0 0 (hcl n_isWord_0 rfl [9] _ _ _ (hc11.1 c12) mr10) (Nat.le_refl _) (Nat.zero_le _) (Nat.zero_le _) (fun z13 S13 V13 hq13 => ?_))
          obtain ⟨rfl, M13, hc14, mr13, hf13⟩ := hq13
          have mf13 := MF.trans mf10 hf13
          refine X_if_eq dX12_readMember_241 (tgt := 251) rfl (fun c15 => ?_) (fun c15 => ?_)
          · refine X_aload_n dX12_readMember_251 rfl ?_
            refine X_iconst dX12_readMember_252 (by decide) ?_
            refine X_invV (ci := 12) (as := [vi 2]) (st := []) okX12_fault dX12_readMember_253 km_RX12_288 rfl rfl (Nat.le_of_ble_eq_true rfl) rfl rfl mr13.1 (CT.of d 0 0 (hcl n_fault_0 rfl [2] _ _ _ (hc14.1 c15) mr13) (Nat.le_refl _) (Nat.zero_le _) (Nat.zero_le _) (fun z16 S16 V16 hq16 => ?_))
            obtain ⟨rfl, M16, hc17, mr16, hf16⟩ := hq16
            have mf16 := MF.trans mf13 hf16
            refine X_istore_n dX12_readMember_256 (by decide) rfl ?_
            exact X_ret (z := 0) dX12_readMember_257 rfl (fun _ => trivial) ⟨rfl, _, hc17, mr16, mf16⟩
          · refine X_aload_n dX12_readMember_244 rfl ?_
            refine X_invV (ci := 12) (as := []) (st := []) okX12_readSwitch dX12_readMember_245 km_RX12_341 rfl rfl (Nat.le_of_ble_eq_true rfl) rfl rfl mr13.1 (CT.of d 0 0 (hcl n_readSwitch_0 rfl [] _ _ _ (hc14.2 c15) mr13) (Nat.le_refl _) (Nat.zero_le _) (Nat.zero_le _) (fun z18 S18 V18 hq18 => ?_))
            obtain ⟨rfl, M18, hc19, mr18, hf18⟩ := hq18
            have mf18 := MF.trans mf13 hf18
            refine X_goto dX12_readMember_248 (tgt := 257) rfl ?_
            exact X_ret (z := 0) dX12_readMember_257 rfl (fun _ => trivial) ⟨rfl, _, hc19, mr18, mf18⟩
        · refine X_aload_n dX12_readMember_125 rfl ?_
          refine X_getfield (ci := 12) (k := 17) (v := vr (a 17)) dX12_readMember_126 rfl (by decide) kf_RX12_38 (congrArg vr (MR.ar mr10 (k := 17) (by decide)).1) mr10.1 ?_
          refine X_aload_n dX12_readMember_129 rfl ?_
          refine X_getfield (ci := 12) (k := 41) (v := vi (M10 0 41)) dX12_readMember_130 rfl (by decide) kf_RX12_269 (congrArg vi (MR.in_ mr10 (k := 41) (by decide) rfl)) mr10.1 ?_
          refine X_iaload dX12_readMember_133 ((MR.ar mr10 (k := 17) (by decide)).2.1.trans (by decide)) (hc11.2 c12).1 (lt_eq (hc11.2 c12).2.1 (MR.ln mr10 (k := 17) (by decide) (by decide))) ?_
          refine X_top (v := vi (M10 17 (M10 0 41))) (congrArg vi (MR.el mr10 (k := 17) (by decide) rfl)) ?_
          refine X_iconst dX12_readMember_134 (by decide) ?_
          refine X_icmp_ne dX12_readMember_135 (tgt := 145) rfl (fun c20 => ?_) (fun c20 => ?_)
          · refine X_aload_n dX12_readMember_145 rfl ?_
            refine X_invV (ci := 12) (as := []) (st := []) okX12_next dX12_readMember_146 km_RX12_285 rfl rfl (Nat.le_of_ble_eq_true rfl) rfl rfl mr10.1 (CT.of d 0 0 (hcl n_next_0 rfl [] _ _ _ ((hc11.2 c12).2.2.1 c20) mr10) (Nat.le_refl _) (Nat.zero_le _) (Nat.zero_le _) (fun z21 S21 V21 hq21 => ?_))
            obtain ⟨rfl, M21, hc22, mr21, hf21⟩ := hq21
            have mf21 := MF.trans mf10 hf21
            refine X_aload_n dX12_readMember_149 rfl ?_
            refine X_aload_n dX12_readMember_150 rfl ?_
            refine X_invV (ci := 12) (as := []) (st := [vr m]) okX12_tells dX12_readMember_151 km_RX12_328 rfl rfl (Nat.le_of_ble_eq_true rfl) rfl rfl mr21.1 (CT.of d 0 0 (hcl n_tells_0 rfl [] _ _ _ hc22 mr21) (Nat.le_refl _) (Nat.zero_le _) (Nat.zero_le _) (fun z23 S23 V23 hq23 => ?_))
            obtain ⟨rfl, M23, hc24, mr23, hf23⟩ := hq23
            have mf23 := MF.trans mf21 hf23
            refine X_invV (ci := 12) (as := [vi z23]) (st := []) okX12_newName dX12_readMember_154 km_RX12_314 rfl rfl (Nat.le_of_ble_eq_true rfl) rfl rfl mr23.1 (CT.of d 0 0 (hcl n_newName_0 rfl [z23] _ _ _ hc24 mr23) (Nat.le_refl _) (Nat.zero_le _) (Nat.zero_le _) (fun z25 S25 V25 hq25 => ?_))
            obtain ⟨rfl, M25, hc26, mr25, hf25⟩ := hq25
            have mf25 := MF.trans mf23 hf25
            refine X_istore_n dX12_readMember_157 (by decide) rfl ?_
            refine X_aload_n dX12_readMember_158 rfl ?_
            refine X_getfield (ci := 12) (k := 46) (v := vi (M25 0 46)) dX12_readMember_159 rfl (by decide) kf_RX12_275 (congrArg vi (MR.in_ mr25 (k := 46) (by decide) rfl)) mr25.1 ?_
            refine X_if_le dX12_readMember_162 (tgt := 166) rfl (fun c27 => ?_) (fun c27 => ?_)
            · refine X_iconst dX12_readMember_166 (by decide) ?_
              refine X_aload_n dX12_readMember_167 rfl ?_
              refine X_getfield (ci := 12) (k := 41) (v := vi (M25 0 41)) dX12_readMember_168 rfl (by decide) kf_RX12_269 (congrArg vi (MR.in_ mr25 (k := 41) (by decide) rfl)) mr25.1 ?_
              refine X_imulN dX12_readMember_171 (hc26.1 c27).1 (hc26.1 c27).2.1 ?_
              refine X_aload_n dX12_readMember_172 rfl ?_
              refine X_getfield (ci := 12) (k := 17) (v := vr (a 17)) dX12_readMember_173 rfl (by decide) kf_RX12_38 (congrArg vr (MR.ar mr25 (k := 17) (by decide)).1) mr25.1 ?_
              refine X_aload_n dX12_readMember_176 rfl ?_
              refine X_getfield (ci := 12) (k := 41) (v := vi (M25 0 41)) dX12_readMember_177 rfl (by decide) kf_RX12_269 (congrArg vi (MR.in_ mr25 (k := 41) (by decide) rfl)) mr25.1 ?_
              refine X_iaload dX12_readMember_180 ((MR.ar mr25 (k := 17) (by decide)).2.1.trans (by decide)) (hc26.1 c27).2.2.1 (lt_eq (hc26.1 c27).2.2.2.1 (MR.ln mr25 (k := 17) (by decide) (by decide))) ?_
              refine X_top (v := vi (M25 17 (M25 0 41))) (congrArg vi (MR.el mr25 (k := 17) (by decide) rfl)) ?_
              refine X_iaddN dX12_readMember_181 (hc26.1 c27).2.2.2.2.1 (hc26.1 c27).2.2.2.2.2.1 ?_
              refine X_istore_n dX12_readMember_182 (by decide) rfl ?_
              refine X_aload_n dX12_readMember_183 rfl ?_
              refine X_getfield (ci := 12) (k := 27) (v := vr (a 27)) dX12_readMember_184 rfl (by decide) kf_RX12_68 (congrArg vr (MR.ar mr25 (k := 27) (by decide)).1) mr25.1 ?_
              refine X_iload_n dX12_readMember_187 rfl ?_
              refine X_iload_n dX12_readMember_188 rfl ?_
              refine X_iastore dX12_readMember_189 ((MR.ar mr25 (k := 27) (by decide)).2.1.trans (by decide)) (hc26.1 c27).2.2.2.2.2.2.1 (lt_eq (hc26.1 c27).2.2.2.2.2.2.2.1 (MR.ln mr25 (k := 27) (by decide) (by decide))) ?_
              refine X_aload_n dX12_readMember_190 rfl ?_
              refine X_getfield (ci := 12) (k := 17) (v := vr (a 17)) dX12_readMember_191 rfl (by decide) kf_RX12_38 (congrArg vr (MR.ar (MR.putA mr25 (k := 27) (j := (4 * (M25 0 41)) + (M25 17 (M25 0 41))) (z := z25) (by decide)) (k := 17) (by decide)).1) (MR.putA mr25 (k := 27) (j := (4 * (M25 0 41)) + (M25 17 (M25 0 41))) (z := z25) (by decide)).1 ?_
              refine X_aload_n dX12_readMember_194 rfl ?_
              refine X_getfield (ci := 12) (k := 41) (v := vi (M25 0 41)) dX12_readMember_195 rfl (by decide) kf_RX12_269 (congrArg vi (MR.in_ (MR.putA mr25 (k := 27) (j := (4 * (M25 0 41)) + (M25 17 (M25 0 41))) (z := z25) (by decide)) (k := 41) (by decide) (up_ne (Or.inl (by decide))))) (MR.putA mr25 (k := 27) (j := (4 * (M25 0 41)) + (M25 17 (M25 0 41))) (z := z25) (by decide)).1 ?_
              refine X_dup2 dX12_readMember_198 rfl (rv_cat _) ?_
              refine X_iaload dX12_readMember_199 ((MR.ar (MR.putA mr25 (k := 27) (j := (4 * (M25 0 41)) + (M25 17 (M25 0 41))) (z := z25) (by decide)) (k := 17) (by decide)).2.1.trans (by decide)) (hc26.1 c27).2.2.1 (lt_eq (hc26.1 c27).2.2.2.1 (MR.ln (MR.putA mr25 (k := 27) (j := (4 * (M25 0 41)) + (M25 17 (M25 0 41))) (z := z25) (by decide)) (k := 17) (by decide) (by decide))) ?_
              refine X_top (v := vi (M25 17 (M25 0 41))) (congrArg vi (MR.el (MR.putA mr25 (k := 27) (j := (4 * (M25 0 41)) + (M25 17 (M25 0 41))) (z := z25) (by decide)) (k := 17) (by decide) (up_ne (Or.inl (by decide))))) ?_
              refine X_iconst dX12_readMember_200 (by decide) ?_
              refine X_iaddN dX12_readMember_201 (hc26.1 c27).2.2.2.2.2.2.2.2.1 (hc26.1 c27).2.2.2.2.2.2.2.2.2.1 ?_
              refine X_iastore dX12_readMember_202 ((MR.ar (MR.putA mr25 (k := 27) (j := (4 * (M25 0 41)) + (M25 17 (M25 0 41))) (z := z25) (by decide)) (k := 17) (by decide)).2.1.trans (by decide)) (hc26.1 c27).2.2.1 (lt_eq (hc26.1 c27).2.2.2.1 (MR.ln (MR.putA mr25 (k := 27) (j := (4 * (M25 0 41)) + (M25 17 (M25 0 41))) (z := z25) (by decide)) (k := 17) (by decide) (by decide))) ?_
              refine X_aload_n dX12_readMember_203 rfl ?_
              refine X_invV (ci := 12) (as := []) (st := []) okX12_next dX12_readMember_204 km_RX12_285 rfl rfl (Nat.le_of_ble_eq_true rfl) rfl rfl (MR.putA (MR.putA mr25 (k := 27) (j := (4 * (M25 0 41)) + (M25 17 (M25 0 41))) (z := z25) (by decide)) (k := 17) (j := M25 0 41) (z := (M25 17 (M25 0 41)) + 1) (by decide)).1 (CT.of d 0 0 (hcl n_next_0 rfl [] _ _ _ (hc26.1 c27).2.2.2.2.2.2.2.2.2.2 (MR.putA (MR.putA mr25 (k := 27) (j := (4 * (M25 0 41)) + (M25 17 (M25 0 41))) (z := z25) (by decide)) (k := 17) (j := M25 0 41) (z := (M25 17 (M25 0 41)) + 1) (by decide))) (Nat.le_refl _) (Nat.zero_le _) (Nat.zero_le _) (fun z28 S28 V28 hq28 => ?_))
              obtain ⟨rfl, M28, hc29, mr28, hf28⟩ := hq28
              have mf28 := MF.trans (MF.putA (MF.putA mf25 (k := 27) (j := (4 * (M25 0 41)) + (M25 17 (M25 0 41))) (z := z25) (by decide)) (k := 17) (j := M25 0 41) (z := (M25 17 (M25 0 41)) + 1) (by decide)) hf28
              refine X_aload_n dX12_readMember_207 rfl ?_
              refine X_bipush dX12_readMember_208 (by decide) (by decide) ?_
              refine X_invV (ci := 12) (as := [vi 61]) (st := []) okX12_sign dX12_readMember_210 km_RX12_318 rfl rfl (Nat.le_of_ble_eq_true rfl) rfl rfl mr28.1 (CT.of d 0 0 (hcl n_sign_0 rfl [61] _ _ _ hc29 mr28) (Nat.le_refl _) (Nat.zero_le _) (Nat.zero_le _) (fun z30 S30 V30 hq30 => ?_))
              obtain ⟨rfl, M30, hc31, mr30, hf30⟩ := hq30
              have mf30 := MF.trans mf28 hf30
              refine X_aload_n dX12_readMember_213 rfl ?_
              refine X_getfield (ci := 12) (k := 28) (v := vr (a 28)) dX12_readMember_214 rfl (by decide) kf_RX12_71 (congrArg vr (MR.ar mr30 (k := 28) (by decide)).1) mr30.1 ?_
              refine X_iload_n dX12_readMember_217 rfl ?_
              refine X_aload_n dX12_readMember_218 rfl ?_
              refine X_iconst dX12_readMember_219 (by decide) ?_
              refine X_iconst dX12_readMember_220 (by decide) ?_
              refine X_iconst dX12_readMember_221 (by decide) ?_
              refine X_invV (ci := 12) (as := [vi 0, vi 0, vi 0]) (st := [vi ((4 * (M25 0 41)) + (M25 17 (M25 0 41))), vr (a 28)]) okX12_readExpr dX12_readMember_222 km_RX12_331 rfl rfl (Nat.le_of_ble_eq_true rfl) rfl rfl mr30.1 (CT.of d 0 0 (hcl n_readExpr_0 rfl [0, 0, 0] _ _ _ hc31 mr30) (Nat.le_refl _) (Nat.zero_le _) (Nat.zero_le _) (fun z32 S32 V32 hq32 => ?_))
              obtain ⟨rfl, M32, hc33, mr32, hf32⟩ := hq32
              have mf32 := MF.trans mf30 hf32
              refine X_iastore dX12_readMember_225 ((MR.ar mr32 (k := 28) (by decide)).2.1.trans (by decide)) hc33.1 (lt_eq hc33.2.1 (MR.ln mr32 (k := 28) (by decide) (by decide))) ?_
              refine X_aload_n dX12_readMember_226 rfl ?_
              refine X_bipush dX12_readMember_227 (by decide) (by decide) ?_
              refine X_invV (ci := 12) (as := [vi 59]) (st := []) okX12_sign dX12_readMember_229 km_RX12_318 rfl rfl (Nat.le_of_ble_eq_true rfl) rfl rfl (MR.putA mr32 (k := 28) (j := (4 * (M25 0 41)) + (M25 17 (M25 0 41))) (z := z32) (by decide)).1 (CT.of d 0 0 (hcl n_sign_0 rfl [59] _ _ _ hc33.2.2 (MR.putA mr32 (k := 28) (j := (4 * (M25 0 41)) + (M25 17 (M25 0 41))) (z := z32) (by decide))) (Nat.le_refl _) (Nat.zero_le _) (Nat.zero_le _) (fun z34 S34 V34 hq34 => ?_))
              obtain ⟨rfl, M34, hc35, mr34, hf34⟩ := hq34
              have mf34 := MF.trans (MF.putA mf32 (k := 28) (j := (4 * (M25 0 41)) + (M25 17 (M25 0 41))) (z := z32) (by decide)) hf34
              refine X_goto dX12_readMember_232 (tgt := 257) rfl ?_
              exact X_ret (z := 0) dX12_readMember_257 rfl (fun _ => trivial) ⟨rfl, _, hc35, mr34, mf34⟩
            · exact X_ret (z := 0) dX12_readMember_165 rfl (fun _ => trivial) ⟨rfl, _, (hc26.2 c27), mr25, mf25⟩
          · refine X_aload_n dX12_readMember_138 rfl ?_
            refine X_iconst dX12_readMember_139 (by decide) ?_
            refine X_invV (ci := 12) (as := [vi 5]) (st := []) okX12_fault dX12_readMember_140 km_RX12_288 rfl rfl (Nat.le_of_ble_eq_true rfl) rfl rfl mr10.1 (CT.of d 0 0 (hcl n_fault_0 rfl [5] _ _ _ ((hc11.2 c12).2.2.2 c20) mr10) (Nat.le_refl _) (Nat.zero_le _) (Nat.zero_le _) (fun z36 S36 V36 hq36 => ?_))
            obtain ⟨rfl, M36, hc37, mr36, hf36⟩ := hq36
            have mf36 := MF.trans mf10 hf36
            refine X_istore_n dX12_readMember_143 (by decide) rfl ?_
            exact X_ret (z := 0) dX12_readMember_144 rfl (fun _ => trivial) ⟨rfl, _, hc37, mr36, mf36⟩
      · refine X_aload_n dX12_readMember_42 rfl ?_
        refine X_getfield (ci := 12) (k := 16) (v := vr (a 16)) dX12_readMember_43 rfl (by decide) kf_RX12_35 (congrArg vr (MR.ar mr7 (k := 16) (by decide)).1) mr7.1 ?_
        refine X_aload_n dX12_readMember_46 rfl ?_
        refine X_getfield (ci := 12) (k := 41) (v := vi (M7 0 41)) dX12_readMember_47 rfl (by decide) kf_RX12_269 (congrArg vi (MR.in_ mr7 (k := 41) (by decide) rfl)) mr7.1 ?_
        refine X_iaload dX12_readMember_50 ((MR.ar mr7 (k := 16) (by decide)).2.1.trans (by decide)) (hc8.2 c9).1 (lt_eq (hc8.2 c9).2.1 (MR.ln mr7 (k := 16) (by decide) (by decide))) ?_
        refine X_top (v := vi (M7 16 (M7 0 41))) (congrArg vi (MR.el mr7 (k := 16) (by decide) rfl)) ?_
        refine X_iconst dX12_readMember_51 (by decide) ?_
        refine X_icmp_ne dX12_readMember_52 (tgt := 62) rfl (fun c38 => ?_) (fun c38 => ?_)
        · refine X_aload_n dX12_readMember_62 rfl ?_
          refine X_invV (ci := 12) (as := []) (st := []) okX12_next dX12_readMember_63 km_RX12_285 rfl rfl (Nat.le_of_ble_eq_true rfl) rfl rfl mr7.1 (CT.of d 0 0 (hcl n_next_0 rfl [] _ _ _ ((hc8.2 c9).2.2.1 c38) mr7) (Nat.le_refl _) (Nat.zero_le _) (Nat.zero_le _) (fun z39 S39 V39 hq39 => ?_))
          obtain ⟨rfl, M39, hc40, mr39, hf39⟩ := hq39
          have mf39 := MF.trans mf7 hf39
          refine X_aload_n dX12_readMember_66 rfl ?_
          refine X_getfield (ci := 12) (k := 26) (v := vr (a 26)) dX12_readMember_67 rfl (by decide) kf_RX12_65 (congrArg vr (MR.ar mr39 (k := 26) (by decide)).1) mr39.1 ?_
          refine X_iconst dX12_readMember_70 (by decide) ?_
          refine X_aload_n dX12_readMember_71 rfl ?_
          refine X_getfield (ci := 12) (k := 41) (v := vi (M39 0 41)) dX12_readMember_72 rfl (by decide) kf_RX12_269 (congrArg vi (MR.in_ mr39 (k := 41) (by decide) rfl)) mr39.1 ?_
          refine X_imulN dX12_readMember_75 hc40.1 hc40.2.1 ?_
          refine X_aload_n dX12_readMember_76 rfl ?_
          refine X_getfield (ci := 12) (k := 16) (v := vr (a 16)) dX12_readMember_77 rfl (by decide) kf_RX12_35 (congrArg vr (MR.ar mr39 (k := 16) (by decide)).1) mr39.1 ?_
          refine X_aload_n dX12_readMember_80 rfl ?_
          refine X_getfield (ci := 12) (k := 41) (v := vi (M39 0 41)) dX12_readMember_81 rfl (by decide) kf_RX12_269 (congrArg vi (MR.in_ mr39 (k := 41) (by decide) rfl)) mr39.1 ?_
          refine X_iaload dX12_readMember_84 ((MR.ar mr39 (k := 16) (by decide)).2.1.trans (by decide)) hc40.2.2.1 (lt_eq hc40.2.2.2.1 (MR.ln mr39 (k := 16) (by decide) (by decide))) ?_
          refine X_top (v := vi (M39 16 (M39 0 41))) (congrArg vi (MR.el mr39 (k := 16) (by decide) rfl)) ?_
          refine X_iaddN dX12_readMember_85 hc40.2.2.2.2.1 hc40.2.2.2.2.2.1 ?_
          refine X_aload_n dX12_readMember_86 rfl ?_
          refine X_iconst dX12_readMember_87 (by decide) ?_
          refine X_iconst dX12_readMember_88 (by decide) ?_
          refine X_iconst dX12_readMember_89 (by decide) ?_
          refine X_invV (ci := 12) (as := [vi 0, vi 0, vi 0]) (st := [vi ((3 * (M39 0 41)) + (M39 16 (M39 0 41))), vr (a 26)]) okX12_readExpr dX12_readMember_90 km_RX12_331 rfl rfl (Nat.le_of_ble_eq_true rfl) rfl rfl mr39.1 (CT.of d 0 0 (hcl n_readExpr_0 rfl [0, 0, 0] _ _ _ hc40.2.2.2.2.2.2 mr39) (Nat.le_refl _) (Nat.zero_le _) (Nat.zero_le _) (fun z41 S41 V41 hq41 => ?_))
          obtain ⟨rfl, M41, hc42, mr41, hf41⟩ := hq41
          have mf41 := MF.trans mf39 hf41
          refine X_iastore dX12_readMember_93 ((MR.ar mr41 (k := 26) (by decide)).2.1.trans (by decide)) hc42.1 (lt_eq hc42.2.1 (MR.ln mr41 (k := 26) (by decide) (by decide))) ?_
          refine X_aload_n dX12_readMember_94 rfl ?_
          refine X_getfield (ci := 12) (k := 16) (v := vr (a 16)) dX12_readMember_95 rfl (by decide) kf_RX12_35 (congrArg vr (MR.ar (MR.putA mr41 (k := 26) (j := (3 * (M39 0 41)) + (M39 16 (M39 0 41))) (z := z41) (by decide)) (k := 16) (by decide)).1) (MR.putA mr41 (k := 26) (j := (3 * (M39 0 41)) + (M39 16 (M39 0 41))) (z := z41) (by decide)).1 ?_
          refine X_aload_n dX12_readMember_98 rfl ?_
          refine X_getfield (ci := 12) (k := 41) (v := vi (M41 0 41)) dX12_readMember_99 rfl (by decide) kf_RX12_269 (congrArg vi (MR.in_ (MR.putA mr41 (k := 26) (j := (3 * (M39 0 41)) + (M39 16 (M39 0 41))) (z := z41) (by decide)) (k := 41) (by decide) (up_ne (Or.inl (by decide))))) (MR.putA mr41 (k := 26) (j := (3 * (M39 0 41)) + (M39 16 (M39 0 41))) (z := z41) (by decide)).1 ?_
          refine X_dup2 dX12_readMember_102 rfl (rv_cat _) ?_
          refine X_iaload dX12_readMember_103 ((MR.ar (MR.putA mr41 (k := 26) (j := (3 * (M39 0 41)) + (M39 16 (M39 0 41))) (z := z41) (by decide)) (k := 16) (by decide)).2.1.trans (by decide)) hc42.2.2.1 (lt_eq hc42.2.2.2.1 (MR.ln (MR.putA mr41 (k := 26) (j := (3 * (M39 0 41)) + (M39 16 (M39 0 41))) (z := z41) (by decide)) (k := 16) (by decide) (by decide))) ?_
          refine X_top (v := vi (M41 16 (M41 0 41))) (congrArg vi (MR.el (MR.putA mr41 (k := 26) (j := (3 * (M39 0 41)) + (M39 16 (M39 0 41))) (z := z41) (by decide)) (k := 16) (by decide) (up_ne (Or.inl (by decide))))) ?_
          refine X_iconst dX12_readMember_104 (by decide) ?_
          refine X_iaddN dX12_readMember_105 hc42.2.2.2.2.1 hc42.2.2.2.2.2.1 ?_
          refine X_iastore dX12_readMember_106 ((MR.ar (MR.putA mr41 (k := 26) (j := (3 * (M39 0 41)) + (M39 16 (M39 0 41))) (z := z41) (by decide)) (k := 16) (by decide)).2.1.trans (by decide)) hc42.2.2.1 (lt_eq hc42.2.2.2.1 (MR.ln (MR.putA mr41 (k := 26) (j := (3 * (M39 0 41)) + (M39 16 (M39 0 41))) (z := z41) (by decide)) (k := 16) (by decide) (by decide))) ?_
          refine X_aload_n dX12_readMember_107 rfl ?_
          refine X_bipush dX12_readMember_108 (by decide) (by decide) ?_
          refine X_invV (ci := 12) (as := [vi 59]) (st := []) okX12_sign dX12_readMember_110 km_RX12_318 rfl rfl (Nat.le_of_ble_eq_true rfl) rfl rfl (MR.putA (MR.putA mr41 (k := 26) (j := (3 * (M39 0 41)) + (M39 16 (M39 0 41))) (z := z41) (by decide)) (k := 16) (j := M41 0 41) (z := (M41 16 (M41 0 41)) + 1) (by decide)).1 (CT.of d 0 0 (hcl n_sign_0 rfl [59] _ _ _ hc42.2.2.2.2.2.2 (MR.putA (MR.putA mr41 (k := 26) (j := (3 * (M39 0 41)) + (M39 16 (M39 0 41))) (z := z41) (by decide)) (k := 16) (j := M41 0 41) (z := (M41 16 (M41 0 41)) + 1) (by decide))) (Nat.le_refl _) (Nat.zero_le _) (Nat.zero_le _) (fun z43 S43 V43 hq43 => ?_))
          obtain ⟨rfl, M43, hc44, mr43, hf43⟩ := hq43
          have mf43 := MF.trans (MF.putA (MF.putA mf41 (k := 26) (j := (3 * (M39 0 41)) + (M39 16 (M39 0 41))) (z := z41) (by decide)) (k := 16) (j := M41 0 41) (z := (M41 16 (M41 0 41)) + 1) (by decide)) hf43
          refine X_goto dX12_readMember_113 (tgt := 257) rfl ?_
          exact X_ret (z := 0) dX12_readMember_257 rfl (fun _ => trivial) ⟨rfl, _, hc44, mr43, mf43⟩
        · refine X_aload_n dX12_readMember_55 rfl ?_
          refine X_iconst dX12_readMember_56 (by decide) ?_
          refine X_invV (ci := 12) (as := [vi 5]) (st := []) okX12_fault dX12_readMember_57 km_RX12_288 rfl rfl (Nat.le_of_ble_eq_true rfl) rfl rfl mr7.1 (CT.of d 0 0 (hcl n_fault_0 rfl [5] _ _ _ ((hc8.2 c9).2.2.2 c38) mr7) (Nat.le_refl _) (Nat.zero_le _) (Nat.zero_le _) (fun z45 S45 V45 hq45 => ?_))
          obtain ⟨rfl, M45, hc46, mr45, hf45⟩ := hq45
          have mf45 := MF.trans mf7 hf45
          refine X_istore_n dX12_readMember_60 (by decide) rfl ?_
          exact X_ret (z := 0) dX12_readMember_61 rfl (fun _ => trivial) ⟨rfl, _, hc46, mr45, mf45⟩
    · refine X_aload_n dX12_readMember_26 rfl ?_
      refine X_invV (ci := 12) (as := []) (st := []) okX12_readTable dX12_readMember_27 km_RX12_338 rfl rfl (Nat.le_of_ble_eq_true rfl) rfl rfl mr4.1 (CT.of d 0 0 (hcl n_readTable_0 rfl [] _ _ _ (hc5.2 c6) mr4) (Nat.le_refl _) (Nat.zero_le _) (Nat.zero_le _) (fun z47 S47 V47 hq47 => ?_))
      obtain ⟨rfl, M47, hc48, mr47, hf47⟩ := hq47
      have mf47 := MF.trans mf4 hf47
      refine X_goto dX12_readMember_30 (tgt := 257) rfl ?_
      exact X_ret (z := 0) dX12_readMember_257 rfl (fun _ => trivial) ⟨rfl, _, hc48, mr47, mf47⟩
  · refine X_aload_n dX12_readMember_9 rfl ?_
    refine X_iconst dX12_readMember_10 (by decide) ?_
    refine X_invV (ci := 12) (as := [vi (-1)]) (st := []) okX12_readAct dX12_readMember_11 km_RX12_335 rfl rfl (Nat.le_of_ble_eq_true rfl) rfl rfl mr1.1 (CT.of d 0 0 (hcl n_readAct_0 rfl [(-1)] _ _ _ (hc2.2 c3) mr1) (Nat.le_refl _) (Nat.zero_le _) (Nat.zero_le _) (fun z49 S49 V49 hq49 => ?_))
    obtain ⟨rfl, M49, hc50, mr49, hf49⟩ := hq49
    have mf49 := MF.trans mf1 hf49
    refine X_goto dX12_readMember_14 (tgt := 257) rfl ?_
    exact X_ret (z := 0) dX12_readMember_257 rfl (fun _ => trivial) ⟨rfl, _, hc50, mr49, mf49⟩
def B_readTable_0 (rc : MP) (cl : MC) (Q : Int → Mem → Prop) (d : Nat) (M : Mem) : Prop := 0 ≤ (M 0 41) ∧ (M 0 41) < 120 ∧ ((M 15 (M 0 41)) ≠ 4 → cl n_next_0 [] M (fun z2 M2 => cl n_tells_0 [] M2 (fun z4 M4 => cl n_newName_0 [z4] M4 (fun z6 M6 => ((M6 0 46) ≤ 0 → -2147483648 ≤ 4 * (M6 0 41) ∧ 4 * (M6 0 41) ≤ 2147483647 ∧ 0 ≤ (M6 0 41) ∧ (M6 0 41) < 120 ∧ -2147483648 ≤ (4 * (M6 0 41)) + (M6 15 (M6 0 41)) ∧ (4 * (M6 0 41)) + (M6 15 (M6 0 41)) ≤ 2147483647 ∧ 0 ≤ ((4 * (M6 0 41)) + (M6 15 (M6 0 41))) ∧ ((4 * (M6 0 41)) + (M6 15 (M6 0 41))) < 480 ∧ -2147483648 ≤ (M6 15 (M6 0 41)) + 1 ∧ (M6 15 (M6 0 41)) + 1 ≤ 2147483647 ∧ cl n_next_0 [] (up (up (up M6 23 ((4 * (M6 0 41)) + (M6 15 (M6 0 41))) z6) 24 ((4 * (M6 0 41)) + (M6 15 (M6 0 41))) 0) 15 (M6 0 41) ((M6 15 (M6 0 41)) + 1)) (fun z9 M9 => cl n_sign_0 [61] M9 (fun z11 M11 => cl n_sign_0 [91] M11 (fun z13 M13 => cl n_readEntry_0 [(4 * (M6 0 41)) + (M6 15 (M6 0 41))] M13 (fun z15 M15 => rc n_readTable_106 [z6, (4 * (M6 0 41)) + (M6 15 (M6 0 41))] M15))))) ∧ (¬ ((M6 0 46) ≤ 0) → Q 0 M6))))) ∧ (¬ ((M 15 (M 0 41)) ≠ 4) → cl n_fault_0 [5] M (fun z17 M17 => Q 0 M17))
set_option maxRecDepth 10000 in
theorem s_readTable_0 {l : Launch} {G : GT} {m : Int} {a : Int → Int} {d mc ms : Nat} {S : Sh} {Q : Int → Mem → Prop} {rc : MP} {cl : MC} {V0 V M : Mem} (hrc : RCok l G m a S V0 Q d mc ms rc) (hcl : CLok l G m a S d cl) (mr : MR m a S V M) (mf : MF m a V0 V) (hB : B_readTable_0 rc cl Q d  M) : XJ l G bX12_readTable (Qm m a S V0 Q) (d + 1) 0 [vr m, vu, vu] [] S V mc ms := by
  unfold B_readTable_0 at hB
  refine X_aload_n dX12_readTable_0 rfl ?_
  refine X_getfield (ci := 12) (k := 15) (v := vr (a 15)) dX12_readTable_1 rfl (by decide) kf_RX12_32 (congrArg vr (MR.ar mr (k := 15) (by decide)).1) mr.1 ?_
  refine X_aload_n dX12_readTable_4 rfl ?_
  refine X_getfield (ci := 12) (k := 41) (v := vi (M 0 41)) dX12_readTable_5 rfl (by decide) kf_RX12_269 (congrArg vi (MR.in_ mr (k := 41) (by decide) rfl)) mr.1 ?_
  refine X_iaload dX12_readTable_8 ((MR.ar mr (k := 15) (by decide)).2.1.trans (by decide)) hB.1 (lt_eq hB.2.1 (MR.ln mr (k := 15) (by decide) (by decide))) ?_
  refine X_top (v := vi (M 15 (M 0 41))) (congrArg vi (MR.el mr (k := 15) (by decide) rfl)) ?_
  refine X_iconst dX12_readTable_9 (by decide) ?_
  refine X_icmp_ne dX12_readTable_10 (tgt := 20) rfl (fun c1 => ?_) (fun c1 => ?_)
  · refine X_aload_n dX12_readTable_20 rfl ?_
    refine X_invV (ci := 12) (as := []) (st := []) okX12_next dX12_readTable_21 km_RX12_285 rfl rfl (Nat.le_of_ble_eq_true rfl) rfl rfl mr.1 (CT.of d 0 0 (hcl n_next_0 rfl [] _ _ _ (hB.2.2.1 c1) mr) (Nat.le_refl _) (Nat.zero_le _) (Nat.zero_le _) (fun z2 S2 V2 hq2 => ?_))
    obtain ⟨rfl, M2, hc3, mr2, hf2⟩ := hq2
    have mf2 := MF.trans mf hf2
    refine X_aload_n dX12_readTable_24 rfl ?_
    refine X_aload_n dX12_readTable_25 rfl ?_
    refine X_invV (ci := 12) (as := []) (st := [vr m]) okX12_tells dX12_readTable_26 km_RX12_328 rfl rfl (Nat.le_of_ble_eq_true rfl) rfl rfl mr2.1 (CT.of d 0 0 (hcl n_tells_0 rfl [] _ _ _ hc3 mr2) (Nat.le_refl _) (Nat.zero_le _) (Nat.zero_le _) (fun z4 S4 V4 hq4 => ?_))
    obtain ⟨rfl, M4, hc5, mr4, hf4⟩ := hq4
    have mf4 := MF.trans mf2 hf4
    refine X_invV (ci := 12) (as := [vi z4]) (st := []) okX12_newName dX12_readTable_29 km_RX12_314 rfl rfl (Nat.le_of_ble_eq_true rfl) rfl rfl mr4.1 (CT.of d 0 0 (hcl n_newName_0 rfl [z4] _ _ _ hc5 mr4) (Nat.le_refl _) (Nat.zero_le _) (Nat.zero_le _) (fun z6 S6 V6 hq6 => ?_))
    obtain ⟨rfl, M6, hc7, mr6, hf6⟩ := hq6
    have mf6 := MF.trans mf4 hf6
    refine X_istore_n dX12_readTable_32 (by decide) rfl ?_
    refine X_aload_n dX12_readTable_33 rfl ?_
    refine X_getfield (ci := 12) (k := 46) (v := vi (M6 0 46)) dX12_readTable_34 rfl (by decide) kf_RX12_275 (congrArg vi (MR.in_ mr6 (k := 46) (by decide) rfl)) mr6.1 ?_
    refine X_if_le dX12_readTable_37 (tgt := 41) rfl (fun c8 => ?_) (fun c8 => ?_)
    · refine X_iconst dX12_readTable_41 (by decide) ?_
      refine X_aload_n dX12_readTable_42 rfl ?_
      refine X_getfield (ci := 12) (k := 41) (v := vi (M6 0 41)) dX12_readTable_43 rfl (by decide) kf_RX12_269 (congrArg vi (MR.in_ mr6 (k := 41) (by decide) rfl)) mr6.1 ?_
      refine X_imulN dX12_readTable_46 (hc7.1 c8).1 (hc7.1 c8).2.1 ?_
      refine X_aload_n dX12_readTable_47 rfl ?_
      refine X_getfield (ci := 12) (k := 15) (v := vr (a 15)) dX12_readTable_48 rfl (by decide) kf_RX12_32 (congrArg vr (MR.ar mr6 (k := 15) (by decide)).1) mr6.1 ?_
      refine X_aload_n dX12_readTable_51 rfl ?_
      refine X_getfield (ci := 12) (k := 41) (v := vi (M6 0 41)) dX12_readTable_52 rfl (by decide) kf_RX12_269 (congrArg vi (MR.in_ mr6 (k := 41) (by decide) rfl)) mr6.1 ?_
      refine X_iaload dX12_readTable_55 ((MR.ar mr6 (k := 15) (by decide)).2.1.trans (by decide)) (hc7.1 c8).2.2.1 (lt_eq (hc7.1 c8).2.2.2.1 (MR.ln mr6 (k := 15) (by decide) (by decide))) ?_
      refine X_top (v := vi (M6 15 (M6 0 41))) (congrArg vi (MR.el mr6 (k := 15) (by decide) rfl)) ?_
      refine X_iaddN dX12_readTable_56 (hc7.1 c8).2.2.2.2.1 (hc7.1 c8).2.2.2.2.2.1 ?_
      refine X_istore_n dX12_readTable_57 (by decide) rfl ?_
      refine X_aload_n dX12_readTable_58 rfl ?_
      refine X_getfield (ci := 12) (k := 23) (v := vr (a 23)) dX12_readTable_59 rfl (by decide) kf_RX12_56 (congrArg vr (MR.ar mr6 (k := 23) (by decide)).1) mr6.1 ?_
      refine X_iload_n dX12_readTable_62 rfl ?_
      refine X_iload_n dX12_readTable_63 rfl ?_
      refine X_iastore dX12_readTable_64 ((MR.ar mr6 (k := 23) (by decide)).2.1.trans (by decide)) (hc7.1 c8).2.2.2.2.2.2.1 (lt_eq (hc7.1 c8).2.2.2.2.2.2.2.1 (MR.ln mr6 (k := 23) (by decide) (by decide))) ?_
      refine X_aload_n dX12_readTable_65 rfl ?_
      refine X_getfield (ci := 12) (k := 24) (v := vr (a 24)) dX12_readTable_66 rfl (by decide) kf_RX12_59 (congrArg vr (MR.ar (MR.putA mr6 (k := 23) (j := (4 * (M6 0 41)) + (M6 15 (M6 0 41))) (z := z6) (by decide)) (k := 24) (by decide)).1) (MR.putA mr6 (k := 23) (j := (4 * (M6 0 41)) + (M6 15 (M6 0 41))) (z := z6) (by decide)).1 ?_
      refine X_iload_n dX12_readTable_69 rfl ?_
      refine X_iconst dX12_readTable_70 (by decide) ?_
      refine X_iastore dX12_readTable_71 ((MR.ar (MR.putA mr6 (k := 23) (j := (4 * (M6 0 41)) + (M6 15 (M6 0 41))) (z := z6) (by decide)) (k := 24) (by decide)).2.1.trans (by decide)) (hc7.1 c8).2.2.2.2.2.2.1 (lt_eq (hc7.1 c8).2.2.2.2.2.2.2.1 (MR.ln (MR.putA mr6 (k := 23) (j := (4 * (M6 0 41)) + (M6 15 (M6 0 41))) (z := z6) (by decide)) (k := 24) (by decide) (by decide))) ?_
      refine X_aload_n dX12_readTable_72 rfl ?_
      refine X_getfield (ci := 12) (k := 15) (v := vr (a 15)) dX12_readTable_73 rfl (by decide) kf_RX12_32 (congrArg vr (MR.ar (MR.putA (MR.putA mr6 (k := 23) (j := (4 * (M6 0 41)) + (M6 15 (M6 0 41))) (z := z6) (by decide)) (k := 24) (j := (4 * (M6 0 41)) + (M6 15 (M6 0 41))) (z := 0) (by decide)) (k := 15) (by decide)).1) (MR.putA (MR.putA mr6 (k := 23) (j := (4 * (M6 0 41)) + (M6 15 (M6 0 41))) (z := z6) (by decide)) (k := 24) (j := (4 * (M6 0 41)) + (M6 15 (M6 0 41))) (z := 0) (by decide)).1 ?_
      refine X_aload_n dX12_readTable_76 rfl ?_
      refine X_getfield (ci := 12) (k := 41) (v := vi (M6 0 41)) dX12_readTable_77 rfl (by decide) kf_RX12_269 (congrArg vi (MR.in_ (MR.putA (MR.putA mr6 (k := 23) (j := (4 * (M6 0 41)) + (M6 15 (M6 0 41))) (z := z6) (by decide)) (k := 24) (j := (4 * (M6 0 41)) + (M6 15 (M6 0 41))) (z := 0) (by decide)) (k := 41) (by decide) ((up_ne (Or.inl (by decide))).trans (up_ne (Or.inl (by decide)))))) (MR.putA (MR.putA mr6 (k := 23) (j := (4 * (M6 0 41)) + (M6 15 (M6 0 41))) (z := z6) (by decide)) (k := 24) (j := (4 * (M6 0 41)) + (M6 15 (M6 0 41))) (z := 0) (by decide)).1 ?_
      refine X_dup2 dX12_readTable_80 rfl (rv_cat _) ?_
      refine X_iaload dX12_readTable_81 ((MR.ar (MR.putA (MR.putA mr6 (k := 23) (j := (4 * (M6 0 41)) + (M6 15 (M6 0 41))) (z := z6) (by decide)) (k := 24) (j := (4 * (M6 0 41)) + (M6 15 (M6 0 41))) (z := 0) (by decide)) (k := 15) (by decide)).2.1.trans (by decide)) (hc7.1 c8).2.2.1 (lt_eq (hc7.1 c8).2.2.2.1 (MR.ln (MR.putA (MR.putA mr6 (k := 23) (j := (4 * (M6 0 41)) + (M6 15 (M6 0 41))) (z := z6) (by decide)) (k := 24) (j := (4 * (M6 0 41)) + (M6 15 (M6 0 41))) (z := 0) (by decide)) (k := 15) (by decide) (by decide))) ?_
      refine X_top (v := vi (M6 15 (M6 0 41))) (congrArg vi (MR.el (MR.putA (MR.putA mr6 (k := 23) (j := (4 * (M6 0 41)) + (M6 15 (M6 0 41))) (z := z6) (by decide)) (k := 24) (j := (4 * (M6 0 41)) + (M6 15 (M6 0 41))) (z := 0) (by decide)) (k := 15) (by decide) ((up_ne (Or.inl (by decide))).trans (up_ne (Or.inl (by decide)))))) ?_
      refine X_iconst dX12_readTable_82 (by decide) ?_
      refine X_iaddN dX12_readTable_83 (hc7.1 c8).2.2.2.2.2.2.2.2.1 (hc7.1 c8).2.2.2.2.2.2.2.2.2.1 ?_
      refine X_iastore dX12_readTable_84 ((MR.ar (MR.putA (MR.putA mr6 (k := 23) (j := (4 * (M6 0 41)) + (M6 15 (M6 0 41))) (z := z6) (by decide)) (k := 24) (j := (4 * (M6 0 41)) + (M6 15 (M6 0 41))) (z := 0) (by decide)) (k := 15) (by decide)).2.1.trans (by decide)) (hc7.1 c8).2.2.1 (lt_eq (hc7.1 c8).2.2.2.1 (MR.ln (MR.putA (MR.putA mr6 (k := 23) (j := (4 * (M6 0 41)) + (M6 15 (M6 0 41))) (z := z6) (by decide)) (k := 24) (j := (4 * (M6 0 41)) + (M6 15 (M6 0 41))) (z := 0) (by decide)) (k := 15) (by decide) (by decide))) ?_
      refine X_aload_n dX12_readTable_85 rfl ?_
      refine X_invV (ci := 12) (as := []) (st := []) okX12_next dX12_readTable_86 km_RX12_285 rfl rfl (Nat.le_of_ble_eq_true rfl) rfl rfl (MR.putA (MR.putA (MR.putA mr6 (k := 23) (j := (4 * (M6 0 41)) + (M6 15 (M6 0 41))) (z := z6) (by decide)) (k := 24) (j := (4 * (M6 0 41)) + (M6 15 (M6 0 41))) (z := 0) (by decide)) (k := 15) (j := M6 0 41) (z := (M6 15 (M6 0 41)) + 1) (by decide)).1 (CT.of d 0 0 (hcl n_next_0 rfl [] _ _ _ (hc7.1 c8).2.2.2.2.2.2.2.2.2.2 (MR.putA (MR.putA (MR.putA mr6 (k := 23) (j := (4 * (M6 0 41)) + (M6 15 (M6 0 41))) (z := z6) (by decide)) (k := 24) (j := (4 * (M6 0 41)) + (M6 15 (M6 0 41))) (z := 0) (by decide)) (k := 15) (j := M6 0 41) (z := (M6 15 (M6 0 41)) + 1) (by decide))) (Nat.le_refl _) (Nat.zero_le _) (Nat.zero_le _) (fun z9 S9 V9 hq9 => ?_))
      obtain ⟨rfl, M9, hc10, mr9, hf9⟩ := hq9
      have mf9 := MF.trans (MF.putA (MF.putA (MF.putA mf6 (k := 23) (j := (4 * (M6 0 41)) + (M6 15 (M6 0 41))) (z := z6) (by decide)) (k := 24) (j := (4 * (M6 0 41)) + (M6 15 (M6 0 41))) (z := 0) (by decide)) (k := 15) (j := M6 0 41) (z := (M6 15 (M6 0 41)) + 1) (by decide)) hf9
      refine X_aload_n dX12_readTable_89 rfl ?_
      refine X_bipush dX12_readTable_90 (by decide) (by decide) ?_
      refine X_invV (ci := 12) (as := [vi 61]) (st := []) okX12_sign dX12_readTable_92 km_RX12_318 rfl rfl (Nat.le_of_ble_eq_true rfl) rfl rfl mr9.1 (CT.of d 0 0 (hcl n_sign_0 rfl [61] _ _ _ hc10 mr9) (Nat.le_refl _) (Nat.zero_le _) (Nat.zero_le _) (fun z11 S11 V11 hq11 => ?_))
      obtain ⟨rfl, M11, hc12, mr11, hf11⟩ := hq11
      have mf11 := MF.trans mf9 hf11
      refine X_aload_n dX12_readTable_95 rfl ?_
      refine X_bipush dX12_readTable_96 (by decide) (by decide) ?_
      refine X_invV (ci := 12) (as := [vi 91]) (st := []) okX12_sign dX12_readTable_98 km_RX12_318 rfl rfl (Nat.le_of_ble_eq_true rfl) rfl rfl mr11.1 (CT.of d 0 0 (hcl n_sign_0 rfl [91] _ _ _ hc12 mr11) (Nat.le_refl _) (Nat.zero_le _) (Nat.zero_le _) (fun z13 S13 V13 hq13 => ?_))
      obtain ⟨rfl, M13, hc14, mr13, hf13⟩ := hq13
      have mf13 := MF.trans mf11 hf13
      refine X_aload_n dX12_readTable_101 rfl ?_
      refine X_iload_n dX12_readTable_102 rfl ?_
      refine X_invV (ci := 12) (as := [vi ((4 * (M6 0 41)) + (M6 15 (M6 0 41)))]) (st := []) okX12_readEntry dX12_readTable_103 km_RX12_344 rfl rfl (Nat.le_of_ble_eq_true rfl) rfl rfl mr13.1 (CT.of d 0 0 (hcl n_readEntry_0 rfl [(4 * (M6 0 41)) + (M6 15 (M6 0 41))] _ _ _ hc14 mr13) (Nat.le_refl _) (Nat.zero_le _) (Nat.zero_le _) (fun z15 S15 V15 hq15 => ?_))
      obtain ⟨rfl, M15, hc16, mr15, hf15⟩ := hq15
      have mf15 := MF.trans mf13 hf15
      exact hrc n_readTable_106 [z6, (4 * (M6 0 41)) + (M6 15 (M6 0 41))] _ _ hc16 mr15 mf15
    · exact X_ret (z := 0) dX12_readTable_40 rfl (fun _ => trivial) ⟨rfl, _, (hc7.2 c8), mr6, mf6⟩
  · refine X_aload_n dX12_readTable_13 rfl ?_
    refine X_iconst dX12_readTable_14 (by decide) ?_
    refine X_invV (ci := 12) (as := [vi 5]) (st := []) okX12_fault dX12_readTable_15 km_RX12_288 rfl rfl (Nat.le_of_ble_eq_true rfl) rfl rfl mr.1 (CT.of d 0 0 (hcl n_fault_0 rfl [5] _ _ _ (hB.2.2.2 c1) mr) (Nat.le_refl _) (Nat.zero_le _) (Nat.zero_le _) (fun z17 S17 V17 hq17 => ?_))
    obtain ⟨rfl, M17, hc18, mr17, hf17⟩ := hq17
    have mf17 := MF.trans mf hf17
    refine X_istore_n dX12_readTable_18 (by decide) rfl ?_
    exact X_ret (z := 0) dX12_readTable_19 rfl (fun _ => trivial) ⟨rfl, _, hc18, mr17, mf17⟩
def B_readTable_106 (rc : MP) (cl : MC) (Q : Int → Mem → Prop) (d : Nat) (x1 x2 : Int) (M : Mem) : Prop := ((M 0 46) ≠ 0 → cl n_sign_0 [93] M (fun z2 M2 => cl n_sign_0 [59] M2 (fun z4 M4 => Q 0 M4))) ∧ (¬ ((M 0 46) ≠ 0) → cl n_isSign_0 [44] M (fun z6 M6 => (z6 = 0 → cl n_sign_0 [93] M6 (fun z9 M9 => cl n_sign_0 [59] M9 (fun z11 M11 => Q 0 M11))) ∧ (¬ (z6 = 0) → cl n_next_0 [] M6 (fun z13 M13 => cl n_readEntry_0 [x2] M13 (fun z15 M15 => rc n_readTable_106 [x1, x2] M15)))))
set_option maxRecDepth 10000 in
theorem s_readTable_106 {l : Launch} {G : GT} {m : Int} {a : Int → Int} {d mc ms : Nat} {S : Sh} {Q : Int → Mem → Prop} {rc : MP} {cl : MC} {V0 V M : Mem} {x1 x2 : Int} (hrc : RCok l G m a S V0 Q d mc ms rc) (hcl : CLok l G m a S d cl) (mr : MR m a S V M) (mf : MF m a V0 V) (hB : B_readTable_106 rc cl Q d x1 x2 M) : XJ l G bX12_readTable (Qm m a S V0 Q) (d + 1) 106 [vr m, vi x1, vi x2] [] S V mc ms := by
  unfold B_readTable_106 at hB
  refine X_aload_n dX12_readTable_106 rfl ?_
  refine X_getfield (ci := 12) (k := 46) (v := vi (M 0 46)) dX12_readTable_107 rfl (by decide) kf_RX12_275 (congrArg vi (MR.in_ mr (k := 46) (by decide) rfl)) mr.1 ?_
  refine X_if_ne dX12_readTable_110 (tgt := 134) rfl (fun c1 => ?_) (fun c1 => ?_)
  · refine X_aload_n dX12_readTable_134 rfl ?_
    refine X_bipush dX12_readTable_135 (by decide) (by decide) ?_
    refine X_invV (ci := 12) (as := [vi 93]) (st := []) okX12_sign dX12_readTable_137 km_RX12_318 rfl rfl (Nat.le_of_ble_eq_true rfl) rfl rfl mr.1 (CT.of d 0 0 (hcl n_sign_0 rfl [93] _ _ _ (hB.1 c1) mr) (Nat.le_refl _) (Nat.zero_le _) (Nat.zero_le _) (fun z2 S2 V2 hq2 => ?_))
    obtain ⟨rfl, M2, hc3, mr2, hf2⟩ := hq2
    have mf2 := MF.trans mf hf2
    refine X_aload_n dX12_readTable_140 rfl ?_
    refine X_bipush dX12_readTable_141 (by decide) (by decide) ?_
    refine X_invV (ci := 12) (as := [vi 59]) (st := []) okX12_sign dX12_readTable_143 km_RX12_318 rfl rfl (Nat.le_of_ble_eq_true rfl) rfl rfl mr2.1 (CT.of d 0 0 (hcl n_sign_0 rfl [59] _ _ _ hc3 mr2) (Nat.le_refl _) (Nat.zero_le _) (Nat.zero_le _) (fun z4 S4 V4 hq4 => ?_))
    obtain ⟨rfl, M4, hc5, mr4, hf4⟩ := hq4
    have mf4 := MF.trans mf2 hf4
    exact X_ret (z := 0) dX12_readTable_146 rfl (fun _ => trivial) ⟨rfl, _, hc5, mr4, mf4⟩
  · refine X_aload_n dX12_readTable_113 rfl ?_
    refine X_bipush dX12_readTable_114 (by decide) (by decide) ?_
    refine X_invV (ci := 12) (as := [vi 44]) (st := []) okX12_isSign dX12_readTable_116 km_RX12_281 rfl rfl (Nat.le_of_ble_eq_true rfl) rfl rfl mr.1 (CT.of d 0 0 (hcl n_isSign_0 rfl [44] _ _ _ (hB.2 c1) mr) (Nat.le_refl _) (Nat.zero_le _) (Nat.zero_le _) (fun z6 S6 V6 hq6 => ?_))
    obtain ⟨rfl, M6, hc7, mr6, hf6⟩ := hq6
    have mf6 := MF.trans mf hf6
    refine X_if_eq dX12_readTable_119 (tgt := 134) rfl (fun c8 => ?_) (fun c8 => ?_)
    · refine X_aload_n dX12_readTable_134 rfl ?_
      refine X_bipush dX12_readTable_135 (by decide) (by decide) ?_
      refine X_invV (ci := 12) (as := [vi 93]) (st := []) okX12_sign dX12_readTable_137 km_RX12_318 rfl rfl (Nat.le_of_ble_eq_true rfl) rfl rfl mr6.1 (CT.of d 0 0 (hcl n_sign_0 rfl [93] _ _ _ (hc7.1 c8) mr6) (Nat.le_refl _) (Nat.zero_le _) (Nat.zero_le _) (fun z9 S9 V9 hq9 => ?_))
      obtain ⟨rfl, M9, hc10, mr9, hf9⟩ := hq9
      have mf9 := MF.trans mf6 hf9
      refine X_aload_n dX12_readTable_140 rfl ?_
      refine X_bipush dX12_readTable_141 (by decide) (by decide) ?_
      refine X_invV (ci := 12) (as := [vi 59]) (st := []) okX12_sign dX12_readTable_143 km_RX12_318 rfl rfl (Nat.le_of_ble_eq_true rfl) rfl rfl mr9.1 (CT.of d 0 0 (hcl n_sign_0 rfl [59] _ _ _ hc10 mr9) (Nat.le_refl _) (Nat.zero_le _) (Nat.zero_le _) (fun z11 S11 V11 hq11 => ?_))
      obtain ⟨rfl, M11, hc12, mr11, hf11⟩ := hq11
      have mf11 := MF.trans mf9 hf11
      exact X_ret (z := 0) dX12_readTable_146 rfl (fun _ => trivial) ⟨rfl, _, hc12, mr11, mf11⟩
    · refine X_aload_n dX12_readTable_122 rfl ?_
      refine X_invV (ci := 12) (as := []) (st := []) okX12_next dX12_readTable_123 km_RX12_285 rfl rfl (Nat.le_of_ble_eq_true rfl) rfl rfl mr6.1 (CT.of d 0 0 (hcl n_next_0 rfl [] _ _ _ (hc7.2 c8) mr6) (Nat.le_refl _) (Nat.zero_le _) (Nat.zero_le _) (fun z13 S13 V13 hq13 => ?_))
      obtain ⟨rfl, M13, hc14, mr13, hf13⟩ := hq13
      have mf13 := MF.trans mf6 hf13
      refine X_aload_n dX12_readTable_126 rfl ?_
      refine X_iload_n dX12_readTable_127 rfl ?_
      refine X_invV (ci := 12) (as := [vi x2]) (st := []) okX12_readEntry dX12_readTable_128 km_RX12_344 rfl rfl (Nat.le_of_ble_eq_true rfl) rfl rfl mr13.1 (CT.of d 0 0 (hcl n_readEntry_0 rfl [x2] _ _ _ hc14 mr13) (Nat.le_refl _) (Nat.zero_le _) (Nat.zero_le _) (fun z15 S15 V15 hq15 => ?_))
      obtain ⟨rfl, M15, hc16, mr15, hf15⟩ := hq15
      have mf15 := MF.trans mf13 hf15
      refine X_goto dX12_readTable_131 (tgt := 106) rfl ?_
      exact hrc n_readTable_106 [x1, x2] _ _ hc16 mr15 mf15
def B_readEntry_0 (rc : MP) (cl : MC) (Q : Int → Mem → Prop) (d : Nat) (x1 : Int) (M : Mem) : Prop := ((M 0 46) ≤ 0 → 0 ≤ x1 ∧ x1 < 480 ∧ ((M 24 x1) ≠ 12 → cl n_beginsExpr_0 [] M (fun z3 M3 => (z3 ≠ 0 → -2147483648 ≤ 12 * x1 ∧ 12 * x1 ≤ 2147483647 ∧ 0 ≤ x1 ∧ x1 < 480 ∧ -2147483648 ≤ (12 * x1) + (M3 24 x1) ∧ (12 * x1) + (M3 24 x1) ≤ 2147483647 ∧ -2147483648 ≤ (M3 24 x1) + 1 ∧ (M3 24 x1) + 1 ≤ 2147483647 ∧ cl n_readExpr_0 [0, 0, 0] (up M3 24 x1 ((M3 24 x1) + 1)) (fun z6 M6 => 0 ≤ ((12 * x1) + (M3 24 x1)) ∧ ((12 * x1) + (M3 24 x1)) < 5760 ∧ Q 0 (up M6 25 ((12 * x1) + (M3 24 x1)) z6))) ∧ (¬ (z3 ≠ 0) → cl n_fault_0 [2] M3 (fun z8 M8 => Q 0 M8)))) ∧ (¬ ((M 24 x1) ≠ 12) → cl n_beginsExpr_0 [] M (fun z10 M10 => (z10 = 0 → cl n_beginsExpr_0 [] M10 (fun z13 M13 => (z13 ≠ 0 → -2147483648 ≤ 12 * x1 ∧ 12 * x1 ≤ 2147483647 ∧ 0 ≤ x1 ∧ x1 < 480 ∧ -2147483648 ≤ (12 * x1) + (M13 24 x1) ∧ (12 * x1) + (M13 24 x1) ≤ 2147483647 ∧ -2147483648 ≤ (M13 24 x1) + 1 ∧ (M13 24 x1) + 1 ≤ 2147483647 ∧ cl n_readExpr_0 [0, 0, 0] (up M13 24 x1 ((M13 24 x1) + 1)) (fun z16 M16 => 0 ≤ ((12 * x1) + (M13 24 x1)) ∧ ((12 * x1) + (M13 24 x1)) < 5760 ∧ Q 0 (up M16 25 ((12 * x1) + (M13 24 x1)) z16))) ∧ (¬ (z13 ≠ 0) → cl n_fault_0 [2] M13 (fun z18 M18 => Q 0 M18)))) ∧ (¬ (z10 = 0) → cl n_fault_0 [5] M10 (fun z20 M20 => Q 0 M20))))) ∧ (¬ ((M 0 46) ≤ 0) → Q 0 M)
set_option maxRecDepth 10000 in
theorem s_readEntry_0 {l : Launch} {G : GT} {m : Int} {a : Int → Int} {d mc ms : Nat} {S : Sh} {Q : Int → Mem → Prop} {rc : MP} {cl : MC} {V0 V M : Mem} {x1 : Int} (hrc : RCok l G m a S V0 Q d mc ms rc) (hcl : CLok l G m a S d cl) (mr : MR m a S V M) (mf : MF m a V0 V) (hB : B_readEntry_0 rc cl Q d x1 M) : XJ l G bX12_readEntry (Qm m a S V0 Q) (d + 1) 0 [vr m, vi x1, vu] [] S V mc ms := by
  unfold B_readEntry_0 at hB
  refine X_aload_n dX12_readEntry_0 rfl ?_
  refine X_getfield (ci := 12) (k := 46) (v := vi (M 0 46)) dX12_readEntry_1 rfl (by decide) kf_RX12_275 (congrArg vi (MR.in_ mr (k := 46) (by decide) rfl)) mr.1 ?_
  refine X_if_le dX12_readEntry_4 (tgt := 8) rfl (fun c1 => ?_) (fun c1 => ?_)
  · refine X_aload_n dX12_readEntry_8 rfl ?_
    refine X_getfield (ci := 12) (k := 24) (v := vr (a 24)) dX12_readEntry_9 rfl (by decide) kf_RX12_59 (congrArg vr (MR.ar mr (k := 24) (by decide)).1) mr.1 ?_
    refine X_iload_n dX12_readEntry_12 rfl ?_
    refine X_iaload dX12_readEntry_13 ((MR.ar mr (k := 24) (by decide)).2.1.trans (by decide)) (hB.1 c1).1 (lt_eq (hB.1 c1).2.1 (MR.ln mr (k := 24) (by decide) (by decide))) ?_
    refine X_top (v := vi (M 24 x1)) (congrArg vi (MR.el mr (k := 24) (by decide) rfl)) ?_
    refine X_bipush dX12_readEntry_14 (by decide) (by decide) ?_
    refine X_icmp_ne dX12_readEntry_16 (tgt := 33) rfl (fun c2 => ?_) (fun c2 => ?_)
    · refine X_aload_n dX12_readEntry_33 rfl ?_
      refine X_invV (ci := 12) (as := []) (st := []) okX12_beginsExpr dX12_readEntry_34 km_RX12_347 rfl rfl (Nat.le_of_ble_eq_true rfl) rfl rfl mr.1 (CT.of d 0 0 (hcl n_beginsExpr_0 rfl [] _ _ _ ((hB.1 c1).2.2.1 c2) mr) (Nat.le_refl _) (Nat.zero_le _) (Nat.zero_le _) (fun z3 S3 V3 hq3 => ?_))
      obtain ⟨rfl, M3, hc4, mr3, hf3⟩ := hq3
      have mf3 := MF.trans mf hf3
      refine X_if_ne dX12_readEntry_37 (tgt := 47) rfl (fun c5 => ?_) (fun c5 => ?_)
      · refine X_bipush dX12_readEntry_47 (by decide) (by decide) ?_
        refine X_iload_n dX12_readEntry_49 rfl ?_
        refine X_imulN dX12_readEntry_50 (hc4.1 c5).1 (hc4.1 c5).2.1 ?_
        refine X_aload_n dX12_readEntry_51 rfl ?_
        refine X_getfield (ci := 12) (k := 24) (v := vr (a 24)) dX12_readEntry_52 rfl (by decide) kf_RX12_59 (congrArg vr (MR.ar mr3 (k := 24) (by decide)).1) mr3.1 ?_
        refine X_iload_n dX12_readEntry_55 rfl ?_
        refine X_iaload dX12_readEntry_56 ((MR.ar mr3 (k := 24) (by decide)).2.1.trans (by decide)) (hc4.1 c5).2.2.1 (lt_eq (hc4.1 c5).2.2.2.1 (MR.ln mr3 (k := 24) (by decide) (by decide))) ?_
        refine X_top (v := vi (M3 24 x1)) (congrArg vi (MR.el mr3 (k := 24) (by decide) rfl)) ?_
        refine X_iaddN dX12_readEntry_57 (hc4.1 c5).2.2.2.2.1 (hc4.1 c5).2.2.2.2.2.1 ?_
        refine X_istore_n dX12_readEntry_58 (by decide) rfl ?_
        refine X_aload_n dX12_readEntry_59 rfl ?_
        refine X_getfield (ci := 12) (k := 24) (v := vr (a 24)) dX12_readEntry_60 rfl (by decide) kf_RX12_59 (congrArg vr (MR.ar mr3 (k := 24) (by decide)).1) mr3.1 ?_
        refine X_iload_n dX12_readEntry_63 rfl ?_
        refine X_dup2 dX12_readEntry_64 rfl (rv_cat _) ?_
        refine X_iaload dX12_readEntry_65 ((MR.ar mr3 (k := 24) (by decide)).2.1.trans (by decide)) (hc4.1 c5).2.2.1 (lt_eq (hc4.1 c5).2.2.2.1 (MR.ln mr3 (k := 24) (by decide) (by decide))) ?_
        refine X_top (v := vi (M3 24 x1)) (congrArg vi (MR.el mr3 (k := 24) (by decide) rfl)) ?_
        refine X_iconst dX12_readEntry_66 (by decide) ?_
        refine X_iaddN dX12_readEntry_67 (hc4.1 c5).2.2.2.2.2.2.1 (hc4.1 c5).2.2.2.2.2.2.2.1 ?_
        refine X_iastore dX12_readEntry_68 ((MR.ar mr3 (k := 24) (by decide)).2.1.trans (by decide)) (hc4.1 c5).2.2.1 (lt_eq (hc4.1 c5).2.2.2.1 (MR.ln mr3 (k := 24) (by decide) (by decide))) ?_
        refine X_aload_n dX12_readEntry_69 rfl ?_
        refine X_getfield (ci := 12) (k := 25) (v := vr (a 25)) dX12_readEntry_70 rfl (by decide) kf_RX12_62 (congrArg vr (MR.ar (MR.putA mr3 (k := 24) (j := x1) (z := (M3 24 x1) + 1) (by decide)) (k := 25) (by decide)).1) (MR.putA mr3 (k := 24) (j := x1) (z := (M3 24 x1) + 1) (by decide)).1 ?_
        refine X_iload_n dX12_readEntry_73 rfl ?_
        refine X_aload_n dX12_readEntry_74 rfl ?_
        refine X_iconst dX12_readEntry_75 (by decide) ?_
        refine X_iconst dX12_readEntry_76 (by decide) ?_
        refine X_iconst dX12_readEntry_77 (by decide) ?_
        refine X_invV (ci := 12) (as := [vi 0, vi 0, vi 0]) (st := [vi ((12 * x1) + (M3 24 x1)), vr (a 25)]) okX12_readExpr dX12_readEntry_78 km_RX12_331 rfl rfl (Nat.le_of_ble_eq_true rfl) rfl rfl (MR.putA mr3 (k := 24) (j := x1) (z := (M3 24 x1) + 1) (by decide)).1 (CT.of d 0 0 (hcl n_readExpr_0 rfl [0, 0, 0] _ _ _ (hc4.1 c5).2.2.2.2.2.2.2.2 (MR.putA mr3 (k := 24) (j := x1) (z := (M3 24 x1) + 1) (by decide))) (Nat.le_refl _) (Nat.zero_le _) (Nat.zero_le _) (fun z6 S6 V6 hq6 => ?_))
        obtain ⟨rfl, M6, hc7, mr6, hf6⟩ := hq6
        have mf6 := MF.trans (MF.putA mf3 (k := 24) (j := x1) (z := (M3 24 x1) + 1) (by decide)) hf6
        refine X_iastore dX12_readEntry_81 ((MR.ar mr6 (k := 25) (by decide)).2.1.trans (by decide)) hc7.1 (lt_eq hc7.2.1 (MR.ln mr6 (k := 25) (by decide) (by decide))) ?_
        exact X_ret (z := 0) dX12_readEntry_82 rfl (fun _ => trivial) ⟨rfl, _, hc7.2.2, (MR.putA mr6 (k := 25) (j := (12 * x1) + (M3 24 x1)) (z := z6) (by decide)), (MF.putA mf6 (k := 25) (j := (12 * x1) + (M3 24 x1)) (z := z6) (by decide))⟩
      · refine X_aload_n dX12_readEntry_40 rfl ?_
        refine X_iconst dX12_readEntry_41 (by decide) ?_
        refine X_invV (ci := 12) (as := [vi 2]) (st := []) okX12_fault dX12_readEntry_42 km_RX12_288 rfl rfl (Nat.le_of_ble_eq_true rfl) rfl rfl mr3.1 (CT.of d 0 0 (hcl n_fault_0 rfl [2] _ _ _ (hc4.2 c5) mr3) (Nat.le_refl _) (Nat.zero_le _) (Nat.zero_le _) (fun z8 S8 V8 hq8 => ?_))
        obtain ⟨rfl, M8, hc9, mr8, hf8⟩ := hq8
        have mf8 := MF.trans mf3 hf8
        refine X_istore_n dX12_readEntry_45 (by decide) rfl ?_
        exact X_ret (z := 0) dX12_readEntry_46 rfl (fun _ => trivial) ⟨rfl, _, hc9, mr8, mf8⟩
    · refine X_aload_n dX12_readEntry_19 rfl ?_
      refine X_invV (ci := 12) (as := []) (st := []) okX12_beginsExpr dX12_readEntry_20 km_RX12_347 rfl rfl (Nat.le_of_ble_eq_true rfl) rfl rfl mr.1 (CT.of d 0 0 (hcl n_beginsExpr_0 rfl [] _ _ _ ((hB.1 c1).2.2.2 c2) mr) (Nat.le_refl _) (Nat.zero_le _) (Nat.zero_le _) (fun z10 S10 V10 hq10 => ?_))
      obtain ⟨rfl, M10, hc11, mr10, hf10⟩ := hq10
      have mf10 := MF.trans mf hf10
      refine X_if_eq dX12_readEntry_23 (tgt := 33) rfl (fun c12 => ?_) (fun c12 => ?_)
      · refine X_aload_n dX12_readEntry_33 rfl ?_
        refine X_invV (ci := 12) (as := []) (st := []) okX12_beginsExpr dX12_readEntry_34 km_RX12_347 rfl rfl (Nat.le_of_ble_eq_true rfl) rfl rfl mr10.1 (CT.of d 0 0 (hcl n_beginsExpr_0 rfl [] _ _ _ (hc11.1 c12) mr10) (Nat.le_refl _) (Nat.zero_le _) (Nat.zero_le _) (fun z13 S13 V13 hq13 => ?_))
        obtain ⟨rfl, M13, hc14, mr13, hf13⟩ := hq13
        have mf13 := MF.trans mf10 hf13
        refine X_if_ne dX12_readEntry_37 (tgt := 47) rfl (fun c15 => ?_) (fun c15 => ?_)
        · refine X_bipush dX12_readEntry_47 (by decide) (by decide) ?_
          refine X_iload_n dX12_readEntry_49 rfl ?_
          refine X_imulN dX12_readEntry_50 (hc14.1 c15).1 (hc14.1 c15).2.1 ?_
          refine X_aload_n dX12_readEntry_51 rfl ?_
          refine X_getfield (ci := 12) (k := 24) (v := vr (a 24)) dX12_readEntry_52 rfl (by decide) kf_RX12_59 (congrArg vr (MR.ar mr13 (k := 24) (by decide)).1) mr13.1 ?_
          refine X_iload_n dX12_readEntry_55 rfl ?_
          refine X_iaload dX12_readEntry_56 ((MR.ar mr13 (k := 24) (by decide)).2.1.trans (by decide)) (hc14.1 c15).2.2.1 (lt_eq (hc14.1 c15).2.2.2.1 (MR.ln mr13 (k := 24) (by decide) (by decide))) ?_
          refine X_top (v := vi (M13 24 x1)) (congrArg vi (MR.el mr13 (k := 24) (by decide) rfl)) ?_
          refine X_iaddN dX12_readEntry_57 (hc14.1 c15).2.2.2.2.1 (hc14.1 c15).2.2.2.2.2.1 ?_
          refine X_istore_n dX12_readEntry_58 (by decide) rfl ?_
          refine X_aload_n dX12_readEntry_59 rfl ?_
          refine X_getfield (ci := 12) (k := 24) (v := vr (a 24)) dX12_readEntry_60 rfl (by decide) kf_RX12_59 (congrArg vr (MR.ar mr13 (k := 24) (by decide)).1) mr13.1 ?_
          refine X_iload_n dX12_readEntry_63 rfl ?_
          refine X_dup2 dX12_readEntry_64 rfl (rv_cat _) ?_
          refine X_iaload dX12_readEntry_65 ((MR.ar mr13 (k := 24) (by decide)).2.1.trans (by decide)) (hc14.1 c15).2.2.1 (lt_eq (hc14.1 c15).2.2.2.1 (MR.ln mr13 (k := 24) (by decide) (by decide))) ?_
          refine X_top (v := vi (M13 24 x1)) (congrArg vi (MR.el mr13 (k := 24) (by decide) rfl)) ?_
          refine X_iconst dX12_readEntry_66 (by decide) ?_
          refine X_iaddN dX12_readEntry_67 (hc14.1 c15).2.2.2.2.2.2.1 (hc14.1 c15).2.2.2.2.2.2.2.1 ?_
          refine X_iastore dX12_readEntry_68 ((MR.ar mr13 (k := 24) (by decide)).2.1.trans (by decide)) (hc14.1 c15).2.2.1 (lt_eq (hc14.1 c15).2.2.2.1 (MR.ln mr13 (k := 24) (by decide) (by decide))) ?_
          refine X_aload_n dX12_readEntry_69 rfl ?_
          refine X_getfield (ci := 12) (k := 25) (v := vr (a 25)) dX12_readEntry_70 rfl (by decide) kf_RX12_62 (congrArg vr (MR.ar (MR.putA mr13 (k := 24) (j := x1) (z := (M13 24 x1) + 1) (by decide)) (k := 25) (by decide)).1) (MR.putA mr13 (k := 24) (j := x1) (z := (M13 24 x1) + 1) (by decide)).1 ?_
          refine X_iload_n dX12_readEntry_73 rfl ?_
          refine X_aload_n dX12_readEntry_74 rfl ?_
          refine X_iconst dX12_readEntry_75 (by decide) ?_
          refine X_iconst dX12_readEntry_76 (by decide) ?_
          refine X_iconst dX12_readEntry_77 (by decide) ?_
          refine X_invV (ci := 12) (as := [vi 0, vi 0, vi 0]) (st := [vi ((12 * x1) + (M13 24 x1)), vr (a 25)]) okX12_readExpr dX12_readEntry_78 km_RX12_331 rfl rfl (Nat.le_of_ble_eq_true rfl) rfl rfl (MR.putA mr13 (k := 24) (j := x1) (z := (M13 24 x1) + 1) (by decide)).1 (CT.of d 0 0 (hcl n_readExpr_0 rfl [0, 0, 0] _ _ _ (hc14.1 c15).2.2.2.2.2.2.2.2 (MR.putA mr13 (k := 24) (j := x1) (z := (M13 24 x1) + 1) (by decide))) (Nat.le_refl _) (Nat.zero_le _) (Nat.zero_le _) (fun z16 S16 V16 hq16 => ?_))
          obtain ⟨rfl, M16, hc17, mr16, hf16⟩ := hq16
          have mf16 := MF.trans (MF.putA mf13 (k := 24) (j := x1) (z := (M13 24 x1) + 1) (by decide)) hf16
          refine X_iastore dX12_readEntry_81 ((MR.ar mr16 (k := 25) (by decide)).2.1.trans (by decide)) hc17.1 (lt_eq hc17.2.1 (MR.ln mr16 (k := 25) (by decide) (by decide))) ?_
          exact X_ret (z := 0) dX12_readEntry_82 rfl (fun _ => trivial) ⟨rfl, _, hc17.2.2, (MR.putA mr16 (k := 25) (j := (12 * x1) + (M13 24 x1)) (z := z16) (by decide)), (MF.putA mf16 (k := 25) (j := (12 * x1) + (M13 24 x1)) (z := z16) (by decide))⟩
        · refine X_aload_n dX12_readEntry_40 rfl ?_
          refine X_iconst dX12_readEntry_41 (by decide) ?_
          refine X_invV (ci := 12) (as := [vi 2]) (st := []) okX12_fault dX12_readEntry_42 km_RX12_288 rfl rfl (Nat.le_of_ble_eq_true rfl) rfl rfl mr13.1 (CT.of d 0 0 (hcl n_fault_0 rfl [2] _ _ _ (hc14.2 c15) mr13) (Nat.le_refl _) (Nat.zero_le _) (Nat.zero_le _) (fun z18 S18 V18 hq18 => ?_))
          obtain ⟨rfl, M18, hc19, mr18, hf18⟩ := hq18
          have mf18 := MF.trans mf13 hf18
          refine X_istore_n dX12_readEntry_45 (by decide) rfl ?_
          exact X_ret (z := 0) dX12_readEntry_46 rfl (fun _ => trivial) ⟨rfl, _, hc19, mr18, mf18⟩
      · refine X_aload_n dX12_readEntry_26 rfl ?_
        refine X_iconst dX12_readEntry_27 (by decide) ?_
        refine X_invV (ci := 12) (as := [vi 5]) (st := []) okX12_fault dX12_readEntry_28 km_RX12_288 rfl rfl (Nat.le_of_ble_eq_true rfl) rfl rfl mr10.1 (CT.of d 0 0 (hcl n_fault_0 rfl [5] _ _ _ (hc11.2 c12) mr10) (Nat.le_refl _) (Nat.zero_le _) (Nat.zero_le _) (fun z20 S20 V20 hq20 => ?_))
        obtain ⟨rfl, M20, hc21, mr20, hf20⟩ := hq20
        have mf20 := MF.trans mf10 hf20
        refine X_istore_n dX12_readEntry_31 (by decide) rfl ?_
        exact X_ret (z := 0) dX12_readEntry_32 rfl (fun _ => trivial) ⟨rfl, _, hc21, mr20, mf20⟩
  · exact X_ret (z := 0) dX12_readEntry_7 rfl (fun _ => trivial) ⟨rfl, _, (hB.2 c1), mr, mf⟩
def B_beginsExpr_0 (rc : MP) (cl : MC) (Q : Int → Mem → Prop) (d : Nat) (M : Mem) : Prop := ((M 0 3) = 3 → Q 1 M) ∧ (¬ ((M 0 3) = 3) → cl n_isSign_0 [45] M (fun z2 M2 => (z2 ≠ 0 → Q 1 M2) ∧ (¬ (z2 ≠ 0) → cl n_isSign_0 [40] M2 (fun z5 M5 => (z5 ≠ 0 → Q 1 M5) ∧ (¬ (z5 ≠ 0) → cl n_isWord_0 [14] M5 (fun z8 M8 => (z8 ≠ 0 → Q 1 M8) ∧ (¬ (z8 ≠ 0) → cl n_isName_0 [] M8 (fun z11 M11 => (z11 = 0 → Q 0 M11) ∧ (¬ (z11 = 0) → Q 1 M11)))))))))
set_option maxRecDepth 10000 in
theorem s_beginsExpr_0 {l : Launch} {G : GT} {m : Int} {a : Int → Int} {d mc ms : Nat} {S : Sh} {Q : Int → Mem → Prop} {rc : MP} {cl : MC} {V0 V M : Mem} (hrc : RCok l G m a S V0 Q d mc ms rc) (hcl : CLok l G m a S d cl) (mr : MR m a S V M) (mf : MF m a V0 V) (hB : B_beginsExpr_0 rc cl Q d  M) : XJ l G bX12_beginsExpr (Qm m a S V0 Q) (d + 1) 0 [vr m] [] S V mc ms := by
  unfold B_beginsExpr_0 at hB
  refine X_aload_n dX12_beginsExpr_0 rfl ?_
  refine X_getfield (ci := 12) (k := 3) (v := vi (M 0 3)) dX12_beginsExpr_1 rfl (by decide) kf_RX12_205 (congrArg vi (MR.in_ mr (k := 3) (by decide) rfl)) mr.1 ?_
  refine X_iconst dX12_beginsExpr_4 (by decide) ?_
  refine X_icmp_eq dX12_beginsExpr_5 (tgt := 42) rfl (fun c1 => ?_) (fun c1 => ?_)
  · refine X_iconst dX12_beginsExpr_42 (by decide) ?_
    refine X_goto dX12_beginsExpr_43 (tgt := 47) rfl ?_
    exact X_ret (z := 1) dX12_beginsExpr_47 rfl (fun _ => Or.inr rfl) ⟨rfl, _, (hB.1 c1), mr, mf⟩
  · refine X_aload_n dX12_beginsExpr_8 rfl ?_
    refine X_bipush dX12_beginsExpr_9 (by decide) (by decide) ?_
    refine X_invV (ci := 12) (as := [vi 45]) (st := []) okX12_isSign dX12_beginsExpr_11 km_RX12_281 rfl rfl (Nat.le_of_ble_eq_true rfl) rfl rfl mr.1 (CT.of d 0 0 (hcl n_isSign_0 rfl [45] _ _ _ (hB.2 c1) mr) (Nat.le_refl _) (Nat.zero_le _) (Nat.zero_le _) (fun z2 S2 V2 hq2 => ?_))
    obtain ⟨rfl, M2, hc3, mr2, hf2⟩ := hq2
    have mf2 := MF.trans mf hf2
    refine X_if_ne dX12_beginsExpr_14 (tgt := 42) rfl (fun c4 => ?_) (fun c4 => ?_)
    · refine X_iconst dX12_beginsExpr_42 (by decide) ?_
      refine X_goto dX12_beginsExpr_43 (tgt := 47) rfl ?_
      exact X_ret (z := 1) dX12_beginsExpr_47 rfl (fun _ => Or.inr rfl) ⟨rfl, _, (hc3.1 c4), mr2, mf2⟩
    · refine X_aload_n dX12_beginsExpr_17 rfl ?_
      refine X_bipush dX12_beginsExpr_18 (by decide) (by decide) ?_
      refine X_invV (ci := 12) (as := [vi 40]) (st := []) okX12_isSign dX12_beginsExpr_20 km_RX12_281 rfl rfl (Nat.le_of_ble_eq_true rfl) rfl rfl mr2.1 (CT.of d 0 0 (hcl n_isSign_0 rfl [40] _ _ _ (hc3.2 c4) mr2) (Nat.le_refl _) (Nat.zero_le _) (Nat.zero_le _) (fun z5 S5 V5 hq5 => ?_))
      obtain ⟨rfl, M5, hc6, mr5, hf5⟩ := hq5
      have mf5 := MF.trans mf2 hf5
      refine X_if_ne dX12_beginsExpr_23 (tgt := 42) rfl (fun c7 => ?_) (fun c7 => ?_)
      · refine X_iconst dX12_beginsExpr_42 (by decide) ?_
        refine X_goto dX12_beginsExpr_43 (tgt := 47) rfl ?_
        exact X_ret (z := 1) dX12_beginsExpr_47 rfl (fun _ => Or.inr rfl) ⟨rfl, _, (hc6.1 c7), mr5, mf5⟩
      · refine X_aload_n dX12_beginsExpr_26 rfl ?_
        refine X_ldcS (i := 14) dX12_beginsExpr_27 (by decide) ⟨rfl, rfl⟩ ?_
        refine X_invV (ci := 12) (as := [vr ((G.2.2.2.1 14 : Int) + 1)]) (st := []) okX12_isWord dX12_beginsExpr_29 km_RX12_235 rfl rfl (Nat.le_of_ble_eq_true rfl) rfl rfl mr5.1 (CT.of d 0 0 (hcl n_isWord_0 rfl [14] _ _ _ (hc6.2 c7) mr5) (Nat.le_refl _) (Nat.zero_le _) (Nat.zero_le _) (fun z8 S8 V8 hq8 => ?_))
        obtain ⟨rfl, M8, hc9, mr8, hf8⟩ := hq8
        have mf8 := MF.trans mf5 hf8
        refine X_if_ne dX12_beginsExpr_32 (tgt := 42) rfl (fun c10 => ?_) (fun c10 => ?_)
        · refine X_iconst dX12_beginsExpr_42 (by decide) ?_
          refine X_goto dX12_beginsExpr_43 (tgt := 47) rfl ?_
          exact X_ret (z := 1) dX12_beginsExpr_47 rfl (fun _ => Or.inr rfl) ⟨rfl, _, (hc9.1 c10), mr8, mf8⟩
        · refine X_aload_n dX12_beginsExpr_35 rfl ?_
          refine X_invV (ci := 12) (as := []) (st := []) okX12_isName dX12_beginsExpr_36 km_RX12_291 rfl rfl (Nat.le_of_ble_eq_true rfl) rfl rfl mr8.1 (CT.of d 0 0 (hcl n_isName_0 rfl [] _ _ _ (hc9.2 c10) mr8) (Nat.le_refl _) (Nat.zero_le _) (Nat.zero_le _) (fun z11 S11 V11 hq11 => ?_))
          obtain ⟨rfl, M11, hc12, mr11, hf11⟩ := hq11
          have mf11 := MF.trans mf8 hf11
          refine X_if_eq dX12_beginsExpr_39 (tgt := 46) rfl (fun c13 => ?_) (fun c13 => ?_)
          · refine X_iconst dX12_beginsExpr_46 (by decide) ?_
            exact X_ret (z := 0) dX12_beginsExpr_47 rfl (fun _ => Or.inl rfl) ⟨rfl, _, (hc12.1 c13), mr11, mf11⟩
          · refine X_iconst dX12_beginsExpr_42 (by decide) ?_
            refine X_goto dX12_beginsExpr_43 (tgt := 47) rfl ?_
            exact X_ret (z := 1) dX12_beginsExpr_47 rfl (fun _ => Or.inr rfl) ⟨rfl, _, (hc12.2 c13), mr11, mf11⟩
def B_readSwitch_0 (rc : MP) (cl : MC) (Q : Int → Mem → Prop) (d : Nat) (M : Mem) : Prop := 0 ≤ (M 0 41) ∧ (M 0 41) < 120 ∧ ((M 18 (M 0 41)) ≠ 3 → cl n_next_0 [] M (fun z2 M2 => cl n_tells_0 [] M2 (fun z4 M4 => cl n_newName_0 [z4] M4 (fun z6 M6 => ((M6 0 46) ≤ 0 → -2147483648 ≤ 3 * (M6 0 41) ∧ 3 * (M6 0 41) ≤ 2147483647 ∧ 0 ≤ (M6 0 41) ∧ (M6 0 41) < 120 ∧ -2147483648 ≤ (3 * (M6 0 41)) + (M6 18 (M6 0 41)) ∧ (3 * (M6 0 41)) + (M6 18 (M6 0 41)) ≤ 2147483647 ∧ 0 ≤ ((3 * (M6 0 41)) + (M6 18 (M6 0 41))) ∧ ((3 * (M6 0 41)) + (M6 18 (M6 0 41))) < 360 ∧ -2147483648 ≤ (M6 18 (M6 0 41)) + 1 ∧ (M6 18 (M6 0 41)) + 1 ≤ 2147483647 ∧ cl n_next_0 [] (up (up (up M6 29 ((3 * (M6 0 41)) + (M6 18 (M6 0 41))) z6) 30 ((3 * (M6 0 41)) + (M6 18 (M6 0 41))) 0) 18 (M6 0 41) ((M6 18 (M6 0 41)) + 1)) (fun z9 M9 => cl n_sign_0 [123] M9 (fun z11 M11 => rc n_readSwitch_95 [z6, (3 * (M6 0 41)) + (M6 18 (M6 0 41))] M11))) ∧ (¬ ((M6 0 46) ≤ 0) → Q 0 M6))))) ∧ (¬ ((M 18 (M 0 41)) ≠ 3) → cl n_fault_0 [5] M (fun z13 M13 => Q 0 M13))
set_option maxRecDepth 10000 in
theorem s_readSwitch_0 {l : Launch} {G : GT} {m : Int} {a : Int → Int} {d mc ms : Nat} {S : Sh} {Q : Int → Mem → Prop} {rc : MP} {cl : MC} {V0 V M : Mem} (hrc : RCok l G m a S V0 Q d mc ms rc) (hcl : CLok l G m a S d cl) (mr : MR m a S V M) (mf : MF m a V0 V) (hB : B_readSwitch_0 rc cl Q d  M) : XJ l G bX12_readSwitch (Qm m a S V0 Q) (d + 1) 0 [vr m, vu, vu, vu] [] S V mc ms := by
  unfold B_readSwitch_0 at hB
  refine X_aload_n dX12_readSwitch_0 rfl ?_
  refine X_getfield (ci := 12) (k := 18) (v := vr (a 18)) dX12_readSwitch_1 rfl (by decide) kf_RX12_41 (congrArg vr (MR.ar mr (k := 18) (by decide)).1) mr.1 ?_
  refine X_aload_n dX12_readSwitch_4 rfl ?_
  refine X_getfield (ci := 12) (k := 41) (v := vi (M 0 41)) dX12_readSwitch_5 rfl (by decide) kf_RX12_269 (congrArg vi (MR.in_ mr (k := 41) (by decide) rfl)) mr.1 ?_
  refine X_iaload dX12_readSwitch_8 ((MR.ar mr (k := 18) (by decide)).2.1.trans (by decide)) hB.1 (lt_eq hB.2.1 (MR.ln mr (k := 18) (by decide) (by decide))) ?_
  refine X_top (v := vi (M 18 (M 0 41))) (congrArg vi (MR.el mr (k := 18) (by decide) rfl)) ?_
  refine X_iconst dX12_readSwitch_9 (by decide) ?_
  refine X_icmp_ne dX12_readSwitch_10 (tgt := 20) rfl (fun c1 => ?_) (fun c1 => ?_)
  · refine X_aload_n dX12_readSwitch_20 rfl ?_
    refine X_invV (ci := 12) (as := []) (st := []) okX12_next dX12_readSwitch_21 km_RX12_285 rfl rfl (Nat.le_of_ble_eq_true rfl) rfl rfl mr.1 (CT.of d 0 0 (hcl n_next_0 rfl [] _ _ _ (hB.2.2.1 c1) mr) (Nat.le_refl _) (Nat.zero_le _) (Nat.zero_le _) (fun z2 S2 V2 hq2 => ?_))
    obtain ⟨rfl, M2, hc3, mr2, hf2⟩ := hq2
    have mf2 := MF.trans mf hf2
    refine X_aload_n dX12_readSwitch_24 rfl ?_
    refine X_aload_n dX12_readSwitch_25 rfl ?_
    refine X_invV (ci := 12) (as := []) (st := [vr m]) okX12_tells dX12_readSwitch_26 km_RX12_328 rfl rfl (Nat.le_of_ble_eq_true rfl) rfl rfl mr2.1 (CT.of d 0 0 (hcl n_tells_0 rfl [] _ _ _ hc3 mr2) (Nat.le_refl _) (Nat.zero_le _) (Nat.zero_le _) (fun z4 S4 V4 hq4 => ?_))
    obtain ⟨rfl, M4, hc5, mr4, hf4⟩ := hq4
    have mf4 := MF.trans mf2 hf4
    refine X_invV (ci := 12) (as := [vi z4]) (st := []) okX12_newName dX12_readSwitch_29 km_RX12_314 rfl rfl (Nat.le_of_ble_eq_true rfl) rfl rfl mr4.1 (CT.of d 0 0 (hcl n_newName_0 rfl [z4] _ _ _ hc5 mr4) (Nat.le_refl _) (Nat.zero_le _) (Nat.zero_le _) (fun z6 S6 V6 hq6 => ?_))
    obtain ⟨rfl, M6, hc7, mr6, hf6⟩ := hq6
    have mf6 := MF.trans mf4 hf6
    refine X_istore_n dX12_readSwitch_32 (by decide) rfl ?_
    refine X_aload_n dX12_readSwitch_33 rfl ?_
    refine X_getfield (ci := 12) (k := 46) (v := vi (M6 0 46)) dX12_readSwitch_34 rfl (by decide) kf_RX12_275 (congrArg vi (MR.in_ mr6 (k := 46) (by decide) rfl)) mr6.1 ?_
    refine X_if_le dX12_readSwitch_37 (tgt := 41) rfl (fun c8 => ?_) (fun c8 => ?_)
    · refine X_iconst dX12_readSwitch_41 (by decide) ?_
      refine X_aload_n dX12_readSwitch_42 rfl ?_
      refine X_getfield (ci := 12) (k := 41) (v := vi (M6 0 41)) dX12_readSwitch_43 rfl (by decide) kf_RX12_269 (congrArg vi (MR.in_ mr6 (k := 41) (by decide) rfl)) mr6.1 ?_
      refine X_imulN dX12_readSwitch_46 (hc7.1 c8).1 (hc7.1 c8).2.1 ?_
      refine X_aload_n dX12_readSwitch_47 rfl ?_
      refine X_getfield (ci := 12) (k := 18) (v := vr (a 18)) dX12_readSwitch_48 rfl (by decide) kf_RX12_41 (congrArg vr (MR.ar mr6 (k := 18) (by decide)).1) mr6.1 ?_
      refine X_aload_n dX12_readSwitch_51 rfl ?_
      refine X_getfield (ci := 12) (k := 41) (v := vi (M6 0 41)) dX12_readSwitch_52 rfl (by decide) kf_RX12_269 (congrArg vi (MR.in_ mr6 (k := 41) (by decide) rfl)) mr6.1 ?_
      refine X_iaload dX12_readSwitch_55 ((MR.ar mr6 (k := 18) (by decide)).2.1.trans (by decide)) (hc7.1 c8).2.2.1 (lt_eq (hc7.1 c8).2.2.2.1 (MR.ln mr6 (k := 18) (by decide) (by decide))) ?_
      refine X_top (v := vi (M6 18 (M6 0 41))) (congrArg vi (MR.el mr6 (k := 18) (by decide) rfl)) ?_
      refine X_iaddN dX12_readSwitch_56 (hc7.1 c8).2.2.2.2.1 (hc7.1 c8).2.2.2.2.2.1 ?_
      refine X_istore_n dX12_readSwitch_57 (by decide) rfl ?_
      refine X_aload_n dX12_readSwitch_58 rfl ?_
      refine X_getfield (ci := 12) (k := 29) (v := vr (a 29)) dX12_readSwitch_59 rfl (by decide) kf_RX12_74 (congrArg vr (MR.ar mr6 (k := 29) (by decide)).1) mr6.1 ?_
      refine X_iload_n dX12_readSwitch_62 rfl ?_
      refine X_iload_n dX12_readSwitch_63 rfl ?_
      refine X_iastore dX12_readSwitch_64 ((MR.ar mr6 (k := 29) (by decide)).2.1.trans (by decide)) (hc7.1 c8).2.2.2.2.2.2.1 (lt_eq (hc7.1 c8).2.2.2.2.2.2.2.1 (MR.ln mr6 (k := 29) (by decide) (by decide))) ?_
      refine X_aload_n dX12_readSwitch_65 rfl ?_
      refine X_getfield (ci := 12) (k := 30) (v := vr (a 30)) dX12_readSwitch_66 rfl (by decide) kf_RX12_77 (congrArg vr (MR.ar (MR.putA mr6 (k := 29) (j := (3 * (M6 0 41)) + (M6 18 (M6 0 41))) (z := z6) (by decide)) (k := 30) (by decide)).1) (MR.putA mr6 (k := 29) (j := (3 * (M6 0 41)) + (M6 18 (M6 0 41))) (z := z6) (by decide)).1 ?_
      refine X_iload_n dX12_readSwitch_69 rfl ?_
      refine X_iconst dX12_readSwitch_70 (by decide) ?_
      refine X_iastore dX12_readSwitch_71 ((MR.ar (MR.putA mr6 (k := 29) (j := (3 * (M6 0 41)) + (M6 18 (M6 0 41))) (z := z6) (by decide)) (k := 30) (by decide)).2.1.trans (by decide)) (hc7.1 c8).2.2.2.2.2.2.1 (lt_eq (hc7.1 c8).2.2.2.2.2.2.2.1 (MR.ln (MR.putA mr6 (k := 29) (j := (3 * (M6 0 41)) + (M6 18 (M6 0 41))) (z := z6) (by decide)) (k := 30) (by decide) (by decide))) ?_
      refine X_aload_n dX12_readSwitch_72 rfl ?_
      refine X_getfield (ci := 12) (k := 18) (v := vr (a 18)) dX12_readSwitch_73 rfl (by decide) kf_RX12_41 (congrArg vr (MR.ar (MR.putA (MR.putA mr6 (k := 29) (j := (3 * (M6 0 41)) + (M6 18 (M6 0 41))) (z := z6) (by decide)) (k := 30) (j := (3 * (M6 0 41)) + (M6 18 (M6 0 41))) (z := 0) (by decide)) (k := 18) (by decide)).1) (MR.putA (MR.putA mr6 (k := 29) (j := (3 * (M6 0 41)) + (M6 18 (M6 0 41))) (z := z6) (by decide)) (k := 30) (j := (3 * (M6 0 41)) + (M6 18 (M6 0 41))) (z := 0) (by decide)).1 ?_
      refine X_aload_n dX12_readSwitch_76 rfl ?_
      refine X_getfield (ci := 12) (k := 41) (v := vi (M6 0 41)) dX12_readSwitch_77 rfl (by decide) kf_RX12_269 (congrArg vi (MR.in_ (MR.putA (MR.putA mr6 (k := 29) (j := (3 * (M6 0 41)) + (M6 18 (M6 0 41))) (z := z6) (by decide)) (k := 30) (j := (3 * (M6 0 41)) + (M6 18 (M6 0 41))) (z := 0) (by decide)) (k := 41) (by decide) ((up_ne (Or.inl (by decide))).trans (up_ne (Or.inl (by decide)))))) (MR.putA (MR.putA mr6 (k := 29) (j := (3 * (M6 0 41)) + (M6 18 (M6 0 41))) (z := z6) (by decide)) (k := 30) (j := (3 * (M6 0 41)) + (M6 18 (M6 0 41))) (z := 0) (by decide)).1 ?_
      refine X_dup2 dX12_readSwitch_80 rfl (rv_cat _) ?_
      refine X_iaload dX12_readSwitch_81 ((MR.ar (MR.putA (MR.putA mr6 (k := 29) (j := (3 * (M6 0 41)) + (M6 18 (M6 0 41))) (z := z6) (by decide)) (k := 30) (j := (3 * (M6 0 41)) + (M6 18 (M6 0 41))) (z := 0) (by decide)) (k := 18) (by decide)).2.1.trans (by decide)) (hc7.1 c8).2.2.1 (lt_eq (hc7.1 c8).2.2.2.1 (MR.ln (MR.putA (MR.putA mr6 (k := 29) (j := (3 * (M6 0 41)) + (M6 18 (M6 0 41))) (z := z6) (by decide)) (k := 30) (j := (3 * (M6 0 41)) + (M6 18 (M6 0 41))) (z := 0) (by decide)) (k := 18) (by decide) (by decide))) ?_
      refine X_top (v := vi (M6 18 (M6 0 41))) (congrArg vi (MR.el (MR.putA (MR.putA mr6 (k := 29) (j := (3 * (M6 0 41)) + (M6 18 (M6 0 41))) (z := z6) (by decide)) (k := 30) (j := (3 * (M6 0 41)) + (M6 18 (M6 0 41))) (z := 0) (by decide)) (k := 18) (by decide) ((up_ne (Or.inl (by decide))).trans (up_ne (Or.inl (by decide)))))) ?_
      refine X_iconst dX12_readSwitch_82 (by decide) ?_
      refine X_iaddN dX12_readSwitch_83 (hc7.1 c8).2.2.2.2.2.2.2.2.1 (hc7.1 c8).2.2.2.2.2.2.2.2.2.1 ?_
      refine X_iastore dX12_readSwitch_84 ((MR.ar (MR.putA (MR.putA mr6 (k := 29) (j := (3 * (M6 0 41)) + (M6 18 (M6 0 41))) (z := z6) (by decide)) (k := 30) (j := (3 * (M6 0 41)) + (M6 18 (M6 0 41))) (z := 0) (by decide)) (k := 18) (by decide)).2.1.trans (by decide)) (hc7.1 c8).2.2.1 (lt_eq (hc7.1 c8).2.2.2.1 (MR.ln (MR.putA (MR.putA mr6 (k := 29) (j := (3 * (M6 0 41)) + (M6 18 (M6 0 41))) (z := z6) (by decide)) (k := 30) (j := (3 * (M6 0 41)) + (M6 18 (M6 0 41))) (z := 0) (by decide)) (k := 18) (by decide) (by decide))) ?_
      refine X_aload_n dX12_readSwitch_85 rfl ?_
      refine X_invV (ci := 12) (as := []) (st := []) okX12_next dX12_readSwitch_86 km_RX12_285 rfl rfl (Nat.le_of_ble_eq_true rfl) rfl rfl (MR.putA (MR.putA (MR.putA mr6 (k := 29) (j := (3 * (M6 0 41)) + (M6 18 (M6 0 41))) (z := z6) (by decide)) (k := 30) (j := (3 * (M6 0 41)) + (M6 18 (M6 0 41))) (z := 0) (by decide)) (k := 18) (j := M6 0 41) (z := (M6 18 (M6 0 41)) + 1) (by decide)).1 (CT.of d 0 0 (hcl n_next_0 rfl [] _ _ _ (hc7.1 c8).2.2.2.2.2.2.2.2.2.2 (MR.putA (MR.putA (MR.putA mr6 (k := 29) (j := (3 * (M6 0 41)) + (M6 18 (M6 0 41))) (z := z6) (by decide)) (k := 30) (j := (3 * (M6 0 41)) + (M6 18 (M6 0 41))) (z := 0) (by decide)) (k := 18) (j := M6 0 41) (z := (M6 18 (M6 0 41)) + 1) (by decide))) (Nat.le_refl _) (Nat.zero_le _) (Nat.zero_le _) (fun z9 S9 V9 hq9 => ?_))
      obtain ⟨rfl, M9, hc10, mr9, hf9⟩ := hq9
      have mf9 := MF.trans (MF.putA (MF.putA (MF.putA mf6 (k := 29) (j := (3 * (M6 0 41)) + (M6 18 (M6 0 41))) (z := z6) (by decide)) (k := 30) (j := (3 * (M6 0 41)) + (M6 18 (M6 0 41))) (z := 0) (by decide)) (k := 18) (j := M6 0 41) (z := (M6 18 (M6 0 41)) + 1) (by decide)) hf9
      refine X_aload_n dX12_readSwitch_89 rfl ?_
      refine X_bipush dX12_readSwitch_90 (by decide) (by decide) ?_
      refine X_invV (ci := 12) (as := [vi 123]) (st := []) okX12_sign dX12_readSwitch_92 km_RX12_318 rfl rfl (Nat.le_of_ble_eq_true rfl) rfl rfl mr9.1 (CT.of d 0 0 (hcl n_sign_0 rfl [123] _ _ _ hc10 mr9) (Nat.le_refl _) (Nat.zero_le _) (Nat.zero_le _) (fun z11 S11 V11 hq11 => ?_))
      obtain ⟨rfl, M11, hc12, mr11, hf11⟩ := hq11
      have mf11 := MF.trans mf9 hf11
      exact hrc n_readSwitch_95 [z6, (3 * (M6 0 41)) + (M6 18 (M6 0 41))] _ _ hc12 mr11 mf11
    · exact X_ret (z := 0) dX12_readSwitch_40 rfl (fun _ => trivial) ⟨rfl, _, (hc7.2 c8), mr6, mf6⟩
  · refine X_aload_n dX12_readSwitch_13 rfl ?_
    refine X_iconst dX12_readSwitch_14 (by decide) ?_
    refine X_invV (ci := 12) (as := [vi 5]) (st := []) okX12_fault dX12_readSwitch_15 km_RX12_288 rfl rfl (Nat.le_of_ble_eq_true rfl) rfl rfl mr.1 (CT.of d 0 0 (hcl n_fault_0 rfl [5] _ _ _ (hB.2.2.2 c1) mr) (Nat.le_refl _) (Nat.zero_le _) (Nat.zero_le _) (fun z13 S13 V13 hq13 => ?_))
    obtain ⟨rfl, M13, hc14, mr13, hf13⟩ := hq13
    have mf13 := MF.trans mf hf13
    refine X_istore_n dX12_readSwitch_18 (by decide) rfl ?_
    exact X_ret (z := 0) dX12_readSwitch_19 rfl (fun _ => trivial) ⟨rfl, _, hc14, mr13, mf13⟩
def B_readSwitch_95 (rc : MP) (cl : MC) (Q : Int → Mem → Prop) (d : Nat) (x1 x2 : Int) (M : Mem) : Prop := ((M 0 46) ≠ 0 → ((M 0 46) ≤ 0 → cl n_isWord_0 [11] M (fun z3 M3 => (z3 ≠ 0 → cl n_next_0 [] M3 (fun z6 M6 => cl n_sign_0 [58] M6 (fun z8 M8 => cl n_readExpr_0 [0, 0, 0] M8 (fun z10 M10 => 0 ≤ x2 ∧ x2 < 360 ∧ cl n_sign_0 [59] (up M10 34 x2 z10) (fun z12 M12 => cl n_sign_0 [125] M12 (fun z14 M14 => Q 0 M14)))))) ∧ (¬ (z3 ≠ 0) → cl n_fault_0 [2] M3 (fun z16 M16 => Q 0 M16)))) ∧ (¬ ((M 0 46) ≤ 0) → Q 0 M)) ∧ (¬ ((M 0 46) ≠ 0) → cl n_isWord_0 [10] M (fun z18 M18 => (z18 = 0 → ((M18 0 46) ≤ 0 → cl n_isWord_0 [11] M18 (fun z22 M22 => (z22 ≠ 0 → cl n_next_0 [] M22 (fun z25 M25 => cl n_sign_0 [58] M25 (fun z27 M27 => cl n_readExpr_0 [0, 0, 0] M27 (fun z29 M29 => 0 ≤ x2 ∧ x2 < 360 ∧ cl n_sign_0 [59] (up M29 34 x2 z29) (fun z31 M31 => cl n_sign_0 [125] M31 (fun z33 M33 => Q 0 M33)))))) ∧ (¬ (z22 ≠ 0) → cl n_fault_0 [2] M22 (fun z35 M35 => Q 0 M35)))) ∧ (¬ ((M18 0 46) ≤ 0) → Q 0 M18)) ∧ (¬ (z18 = 0) → cl n_readCase_0 [x2] M18 (fun z37 M37 => rc n_readSwitch_95 [x1, x2] M37))))
set_option maxRecDepth 10000 in
theorem s_readSwitch_95 {l : Launch} {G : GT} {m : Int} {a : Int → Int} {d mc ms : Nat} {S : Sh} {Q : Int → Mem → Prop} {rc : MP} {cl : MC} {V0 V M : Mem} {x1 x2 : Int} (hrc : RCok l G m a S V0 Q d mc ms rc) (hcl : CLok l G m a S d cl) (mr : MR m a S V M) (mf : MF m a V0 V) (hB : B_readSwitch_95 rc cl Q d x1 x2 M) : XJ l G bX12_readSwitch (Qm m a S V0 Q) (d + 1) 95 [vr m, vi x1, vi x2, vu] [] S V mc ms := by
  unfold B_readSwitch_95 at hB
  refine X_aload_n dX12_readSwitch_95 rfl ?_
  refine X_getfield (ci := 12) (k := 46) (v := vi (M 0 46)) dX12_readSwitch_96 rfl (by decide) kf_RX12_275 (congrArg vi (MR.in_ mr (k := 46) (by decide) rfl)) mr.1 ?_
  refine X_if_ne dX12_readSwitch_99 (tgt := 119) rfl (fun c1 => ?_) (fun c1 => ?_)
  · refine X_aload_n dX12_readSwitch_119 rfl ?_
    refine X_getfield (ci := 12) (k := 46) (v := vi (M 0 46)) dX12_readSwitch_120 rfl (by decide) kf_RX12_275 (congrArg vi (MR.in_ mr (k := 46) (by decide) rfl)) mr.1 ?_
    refine X_if_le dX12_readSwitch_123 (tgt := 127) rfl (fun c2 => ?_) (fun c2 => ?_)
    · refine X_aload_n dX12_readSwitch_127 rfl ?_
      refine X_ldcS (i := 11) dX12_readSwitch_128 (by decide) ⟨rfl, rfl⟩ ?_
      refine X_invV (ci := 12) (as := [vr ((G.2.2.2.1 11 : Int) + 1)]) (st := []) okX12_isWord dX12_readSwitch_130 km_RX12_235 rfl rfl (Nat.le_of_ble_eq_true rfl) rfl rfl mr.1 (CT.of d 0 0 (hcl n_isWord_0 rfl [11] _ _ _ ((hB.1 c1).1 c2) mr) (Nat.le_refl _) (Nat.zero_le _) (Nat.zero_le _) (fun z3 S3 V3 hq3 => ?_))
      obtain ⟨rfl, M3, hc4, mr3, hf3⟩ := hq3
      have mf3 := MF.trans mf hf3
      refine X_if_ne dX12_readSwitch_133 (tgt := 143) rfl (fun c5 => ?_) (fun c5 => ?_)
      · refine X_aload_n dX12_readSwitch_143 rfl ?_
        refine X_invV (ci := 12) (as := []) (st := []) okX12_next dX12_readSwitch_144 km_RX12_285 rfl rfl (Nat.le_of_ble_eq_true rfl) rfl rfl mr3.1 (CT.of d 0 0 (hcl n_next_0 rfl [] _ _ _ (hc4.1 c5) mr3) (Nat.le_refl _) (Nat.zero_le _) (Nat.zero_le _) (fun z6 S6 V6 hq6 => ?_))
        obtain ⟨rfl, M6, hc7, mr6, hf6⟩ := hq6
        have mf6 := MF.trans mf3 hf6
        refine X_aload_n dX12_readSwitch_147 rfl ?_
        refine X_bipush dX12_readSwitch_148 (by decide) (by decide) ?_
        refine X_invV (ci := 12) (as := [vi 58]) (st := []) okX12_sign dX12_readSwitch_150 km_RX12_318 rfl rfl (Nat.le_of_ble_eq_true rfl) rfl rfl mr6.1 (CT.of d 0 0 (hcl n_sign_0 rfl [58] _ _ _ hc7 mr6) (Nat.le_refl _) (Nat.zero_le _) (Nat.zero_le _) (fun z8 S8 V8 hq8 => ?_))
        obtain ⟨rfl, M8, hc9, mr8, hf8⟩ := hq8
        have mf8 := MF.trans mf6 hf8
        refine X_aload_n dX12_readSwitch_153 rfl ?_
        refine X_getfield (ci := 12) (k := 34) (v := vr (a 34)) dX12_readSwitch_154 rfl (by decide) kf_RX12_89 (congrArg vr (MR.ar mr8 (k := 34) (by decide)).1) mr8.1 ?_
        refine X_iload_n dX12_readSwitch_157 rfl ?_
        refine X_aload_n dX12_readSwitch_158 rfl ?_
        refine X_iconst dX12_readSwitch_159 (by decide) ?_
        refine X_iconst dX12_readSwitch_160 (by decide) ?_
        refine X_iconst dX12_readSwitch_161 (by decide) ?_
        refine X_invV (ci := 12) (as := [vi 0, vi 0, vi 0]) (st := [vi x2, vr (a 34)]) okX12_readExpr dX12_readSwitch_162 km_RX12_331 rfl rfl (Nat.le_of_ble_eq_true rfl) rfl rfl mr8.1 (CT.of d 0 0 (hcl n_readExpr_0 rfl [0, 0, 0] _ _ _ hc9 mr8) (Nat.le_refl _) (Nat.zero_le _) (Nat.zero_le _) (fun z10 S10 V10 hq10 => ?_))
        obtain ⟨rfl, M10, hc11, mr10, hf10⟩ := hq10
        have mf10 := MF.trans mf8 hf10
        refine X_iastore dX12_readSwitch_165 ((MR.ar mr10 (k := 34) (by decide)).2.1.trans (by decide)) hc11.1 (lt_eq hc11.2.1 (MR.ln mr10 (k := 34) (by decide) (by decide))) ?_
        refine X_aload_n dX12_readSwitch_166 rfl ?_
        refine X_bipush dX12_readSwitch_167 (by decide) (by decide) ?_
        refine X_invV (ci := 12) (as := [vi 59]) (st := []) okX12_sign dX12_readSwitch_169 km_RX12_318 rfl rfl (Nat.le_of_ble_eq_true rfl) rfl rfl (MR.putA mr10 (k := 34) (j := x2) (z := z10) (by decide)).1 (CT.of d 0 0 (hcl n_sign_0 rfl [59] _ _ _ hc11.2.2 (MR.putA mr10 (k := 34) (j := x2) (z := z10) (by decide))) (Nat.le_refl _) (Nat.zero_le _) (Nat.zero_le _) (fun z12 S12 V12 hq12 => ?_))
        obtain ⟨rfl, M12, hc13, mr12, hf12⟩ := hq12
        have mf12 := MF.trans (MF.putA mf10 (k := 34) (j := x2) (z := z10) (by decide)) hf12
        refine X_aload_n dX12_readSwitch_172 rfl ?_
        refine X_bipush dX12_readSwitch_173 (by decide) (by decide) ?_
        refine X_invV (ci := 12) (as := [vi 125]) (st := []) okX12_sign dX12_readSwitch_175 km_RX12_318 rfl rfl (Nat.le_of_ble_eq_true rfl) rfl rfl mr12.1 (CT.of d 0 0 (hcl n_sign_0 rfl [125] _ _ _ hc13 mr12) (Nat.le_refl _) (Nat.zero_le _) (Nat.zero_le _) (fun z14 S14 V14 hq14 => ?_))
        obtain ⟨rfl, M14, hc15, mr14, hf14⟩ := hq14
        have mf14 := MF.trans mf12 hf14
        exact X_ret (z := 0) dX12_readSwitch_178 rfl (fun _ => trivial) ⟨rfl, _, hc15, mr14, mf14⟩
      · refine X_aload_n dX12_readSwitch_136 rfl ?_
        refine X_iconst dX12_readSwitch_137 (by decide) ?_
        refine X_invV (ci := 12) (as := [vi 2]) (st := []) okX12_fault dX12_readSwitch_138 km_RX12_288 rfl rfl (Nat.le_of_ble_eq_true rfl) rfl rfl mr3.1 (CT.of d 0 0 (hcl n_fault_0 rfl [2] _ _ _ (hc4.2 c5) mr3) (Nat.le_refl _) (Nat.zero_le _) (Nat.zero_le _) (fun z16 S16 V16 hq16 => ?_))
        obtain ⟨rfl, M16, hc17, mr16, hf16⟩ := hq16
        have mf16 := MF.trans mf3 hf16
        refine X_istore_n dX12_readSwitch_141 (by decide) rfl ?_
        exact X_ret (z := 0) dX12_readSwitch_142 rfl (fun _ => trivial) ⟨rfl, _, hc17, mr16, mf16⟩
    · exact X_ret (z := 0) dX12_readSwitch_126 rfl (fun _ => trivial) ⟨rfl, _, ((hB.1 c1).2 c2), mr, mf⟩
  · refine X_aload_n dX12_readSwitch_102 rfl ?_
    refine X_ldcS (i := 10) dX12_readSwitch_103 (by decide) ⟨rfl, rfl⟩ ?_
    refine X_invV (ci := 12) (as := [vr ((G.2.2.2.1 10 : Int) + 1)]) (st := []) okX12_isWord dX12_readSwitch_105 km_RX12_235 rfl rfl (Nat.le_of_ble_eq_true rfl) rfl rfl mr.1 (CT.of d 0 0 (hcl n_isWord_0 rfl [10] _ _ _ (hB.2 c1) mr) (Nat.le_refl _) (Nat.zero_le _) (Nat.zero_le _) (fun z18 S18 V18 hq18 => ?_))
    obtain ⟨rfl, M18, hc19, mr18, hf18⟩ := hq18
    have mf18 := MF.trans mf hf18
    refine X_if_eq dX12_readSwitch_108 (tgt := 119) rfl (fun c20 => ?_) (fun c20 => ?_)
    · refine X_aload_n dX12_readSwitch_119 rfl ?_
      refine X_getfield (ci := 12) (k := 46) (v := vi (M18 0 46)) dX12_readSwitch_120 rfl (by decide) kf_RX12_275 (congrArg vi (MR.in_ mr18 (k := 46) (by decide) rfl)) mr18.1 ?_
      refine X_if_le dX12_readSwitch_123 (tgt := 127) rfl (fun c21 => ?_) (fun c21 => ?_)
      · refine X_aload_n dX12_readSwitch_127 rfl ?_
        refine X_ldcS (i := 11) dX12_readSwitch_128 (by decide) ⟨rfl, rfl⟩ ?_
        refine X_invV (ci := 12) (as := [vr ((G.2.2.2.1 11 : Int) + 1)]) (st := []) okX12_isWord dX12_readSwitch_130 km_RX12_235 rfl rfl (Nat.le_of_ble_eq_true rfl) rfl rfl mr18.1 (CT.of d 0 0 (hcl n_isWord_0 rfl [11] _ _ _ ((hc19.1 c20).1 c21) mr18) (Nat.le_refl _) (Nat.zero_le _) (Nat.zero_le _) (fun z22 S22 V22 hq22 => ?_))
        obtain ⟨rfl, M22, hc23, mr22, hf22⟩ := hq22
        have mf22 := MF.trans mf18 hf22
        refine X_if_ne dX12_readSwitch_133 (tgt := 143) rfl (fun c24 => ?_) (fun c24 => ?_)
        · refine X_aload_n dX12_readSwitch_143 rfl ?_
          refine X_invV (ci := 12) (as := []) (st := []) okX12_next dX12_readSwitch_144 km_RX12_285 rfl rfl (Nat.le_of_ble_eq_true rfl) rfl rfl mr22.1 (CT.of d 0 0 (hcl n_next_0 rfl [] _ _ _ (hc23.1 c24) mr22) (Nat.le_refl _) (Nat.zero_le _) (Nat.zero_le _) (fun z25 S25 V25 hq25 => ?_))
          obtain ⟨rfl, M25, hc26, mr25, hf25⟩ := hq25
          have mf25 := MF.trans mf22 hf25
          refine X_aload_n dX12_readSwitch_147 rfl ?_
          refine X_bipush dX12_readSwitch_148 (by decide) (by decide) ?_
          refine X_invV (ci := 12) (as := [vi 58]) (st := []) okX12_sign dX12_readSwitch_150 km_RX12_318 rfl rfl (Nat.le_of_ble_eq_true rfl) rfl rfl mr25.1 (CT.of d 0 0 (hcl n_sign_0 rfl [58] _ _ _ hc26 mr25) (Nat.le_refl _) (Nat.zero_le _) (Nat.zero_le _) (fun z27 S27 V27 hq27 => ?_))
          obtain ⟨rfl, M27, hc28, mr27, hf27⟩ := hq27
          have mf27 := MF.trans mf25 hf27
          refine X_aload_n dX12_readSwitch_153 rfl ?_
          refine X_getfield (ci := 12) (k := 34) (v := vr (a 34)) dX12_readSwitch_154 rfl (by decide) kf_RX12_89 (congrArg vr (MR.ar mr27 (k := 34) (by decide)).1) mr27.1 ?_
          refine X_iload_n dX12_readSwitch_157 rfl ?_
          refine X_aload_n dX12_readSwitch_158 rfl ?_
          refine X_iconst dX12_readSwitch_159 (by decide) ?_
          refine X_iconst dX12_readSwitch_160 (by decide) ?_
          refine X_iconst dX12_readSwitch_161 (by decide) ?_
          refine X_invV (ci := 12) (as := [vi 0, vi 0, vi 0]) (st := [vi x2, vr (a 34)]) okX12_readExpr dX12_readSwitch_162 km_RX12_331 rfl rfl (Nat.le_of_ble_eq_true rfl) rfl rfl mr27.1 (CT.of d 0 0 (hcl n_readExpr_0 rfl [0, 0, 0] _ _ _ hc28 mr27) (Nat.le_refl _) (Nat.zero_le _) (Nat.zero_le _) (fun z29 S29 V29 hq29 => ?_))
          obtain ⟨rfl, M29, hc30, mr29, hf29⟩ := hq29
          have mf29 := MF.trans mf27 hf29
          refine X_iastore dX12_readSwitch_165 ((MR.ar mr29 (k := 34) (by decide)).2.1.trans (by decide)) hc30.1 (lt_eq hc30.2.1 (MR.ln mr29 (k := 34) (by decide) (by decide))) ?_
          refine X_aload_n dX12_readSwitch_166 rfl ?_
          refine X_bipush dX12_readSwitch_167 (by decide) (by decide) ?_
          refine X_invV (ci := 12) (as := [vi 59]) (st := []) okX12_sign dX12_readSwitch_169 km_RX12_318 rfl rfl (Nat.le_of_ble_eq_true rfl) rfl rfl (MR.putA mr29 (k := 34) (j := x2) (z := z29) (by decide)).1 (CT.of d 0 0 (hcl n_sign_0 rfl [59] _ _ _ hc30.2.2 (MR.putA mr29 (k := 34) (j := x2) (z := z29) (by decide))) (Nat.le_refl _) (Nat.zero_le _) (Nat.zero_le _) (fun z31 S31 V31 hq31 => ?_))
          obtain ⟨rfl, M31, hc32, mr31, hf31⟩ := hq31
          have mf31 := MF.trans (MF.putA mf29 (k := 34) (j := x2) (z := z29) (by decide)) hf31
          refine X_aload_n dX12_readSwitch_172 rfl ?_
          refine X_bipush dX12_readSwitch_173 (by decide) (by decide) ?_
          refine X_invV (ci := 12) (as := [vi 125]) (st := []) okX12_sign dX12_readSwitch_175 km_RX12_318 rfl rfl (Nat.le_of_ble_eq_true rfl) rfl rfl mr31.1 (CT.of d 0 0 (hcl n_sign_0 rfl [125] _ _ _ hc32 mr31) (Nat.le_refl _) (Nat.zero_le _) (Nat.zero_le _) (fun z33 S33 V33 hq33 => ?_))
          obtain ⟨rfl, M33, hc34, mr33, hf33⟩ := hq33
          have mf33 := MF.trans mf31 hf33
          exact X_ret (z := 0) dX12_readSwitch_178 rfl (fun _ => trivial) ⟨rfl, _, hc34, mr33, mf33⟩
        · refine X_aload_n dX12_readSwitch_136 rfl ?_
          refine X_iconst dX12_readSwitch_137 (by decide) ?_
          refine X_invV (ci := 12) (as := [vi 2]) (st := []) okX12_fault dX12_readSwitch_138 km_RX12_288 rfl rfl (Nat.le_of_ble_eq_true rfl) rfl rfl mr22.1 (CT.of d 0 0 (hcl n_fault_0 rfl [2] _ _ _ (hc23.2 c24) mr22) (Nat.le_refl _) (Nat.zero_le _) (Nat.zero_le _) (fun z35 S35 V35 hq35 => ?_))
          obtain ⟨rfl, M35, hc36, mr35, hf35⟩ := hq35
          have mf35 := MF.trans mf22 hf35
          refine X_istore_n dX12_readSwitch_141 (by decide) rfl ?_
          exact X_ret (z := 0) dX12_readSwitch_142 rfl (fun _ => trivial) ⟨rfl, _, hc36, mr35, mf35⟩
      · exact X_ret (z := 0) dX12_readSwitch_126 rfl (fun _ => trivial) ⟨rfl, _, ((hc19.1 c20).2 c21), mr18, mf18⟩
    · refine X_aload_n dX12_readSwitch_111 rfl ?_
      refine X_iload_n dX12_readSwitch_112 rfl ?_
      refine X_invV (ci := 12) (as := [vi x2]) (st := []) okX12_readCase dX12_readSwitch_113 km_RX12_350 rfl rfl (Nat.le_of_ble_eq_true rfl) rfl rfl mr18.1 (CT.of d 0 0 (hcl n_readCase_0 rfl [x2] _ _ _ (hc19.2 c20) mr18) (Nat.le_refl _) (Nat.zero_le _) (Nat.zero_le _) (fun z37 S37 V37 hq37 => ?_))
      obtain ⟨rfl, M37, hc38, mr37, hf37⟩ := hq37
      have mf37 := MF.trans mf18 hf37
      refine X_goto dX12_readSwitch_116 (tgt := 95) rfl ?_
      exact hrc n_readSwitch_95 [x1, x2] _ _ hc38 mr37 mf37
def B_readCase_0 (rc : MP) (cl : MC) (Q : Int → Mem → Prop) (d : Nat) (x1 : Int) (M : Mem) : Prop := 0 ≤ x1 ∧ x1 < 360 ∧ ((M 30 x1) ≠ 12 → cl n_next_0 [] M (fun z2 M2 => rc n_readCase_26 [x1, 0, 0] M2)) ∧ (¬ ((M 30 x1) ≠ 12) → cl n_fault_0 [5] M (fun z4 M4 => Q 0 M4))
set_option maxRecDepth 10000 in
theorem s_readCase_0 {l : Launch} {G : GT} {m : Int} {a : Int → Int} {d mc ms : Nat} {S : Sh} {Q : Int → Mem → Prop} {rc : MP} {cl : MC} {V0 V M : Mem} {x1 : Int} (hrc : RCok l G m a S V0 Q d mc ms rc) (hcl : CLok l G m a S d cl) (mr : MR m a S V M) (mf : MF m a V0 V) (hB : B_readCase_0 rc cl Q d x1 M) : XJ l G bX12_readCase (Qm m a S V0 Q) (d + 1) 0 [vr m, vi x1, vu, vu, vu] [] S V mc ms := by
  unfold B_readCase_0 at hB
  refine X_aload_n dX12_readCase_0 rfl ?_
  refine X_getfield (ci := 12) (k := 30) (v := vr (a 30)) dX12_readCase_1 rfl (by decide) kf_RX12_77 (congrArg vr (MR.ar mr (k := 30) (by decide)).1) mr.1 ?_
  refine X_iload_n dX12_readCase_4 rfl ?_
  refine X_iaload dX12_readCase_5 ((MR.ar mr (k := 30) (by decide)).2.1.trans (by decide)) hB.1 (lt_eq hB.2.1 (MR.ln mr (k := 30) (by decide) (by decide))) ?_
  refine X_top (v := vi (M 30 x1)) (congrArg vi (MR.el mr (k := 30) (by decide) rfl)) ?_
  refine X_bipush dX12_readCase_6 (by decide) (by decide) ?_
  refine X_icmp_ne dX12_readCase_8 (tgt := 18) rfl (fun c1 => ?_) (fun c1 => ?_)
  · refine X_aload_n dX12_readCase_18 rfl ?_
    refine X_invV (ci := 12) (as := []) (st := []) okX12_next dX12_readCase_19 km_RX12_285 rfl rfl (Nat.le_of_ble_eq_true rfl) rfl rfl mr.1 (CT.of d 0 0 (hcl n_next_0 rfl [] _ _ _ (hB.2.2.1 c1) mr) (Nat.le_refl _) (Nat.zero_le _) (Nat.zero_le _) (fun z2 S2 V2 hq2 => ?_))
    obtain ⟨rfl, M2, hc3, mr2, hf2⟩ := hq2
    have mf2 := MF.trans mf hf2
    refine X_iconst dX12_readCase_22 (by decide) ?_
    refine X_istore_n dX12_readCase_23 (by decide) rfl ?_
    refine X_iconst dX12_readCase_24 (by decide) ?_
    refine X_istore_n dX12_readCase_25 (by decide) rfl ?_
    exact hrc n_readCase_26 [x1, 0, 0] _ _ hc3 mr2 mf2
  · refine X_aload_n dX12_readCase_11 rfl ?_
    refine X_iconst dX12_readCase_12 (by decide) ?_
    refine X_invV (ci := 12) (as := [vi 5]) (st := []) okX12_fault dX12_readCase_13 km_RX12_288 rfl rfl (Nat.le_of_ble_eq_true rfl) rfl rfl mr.1 (CT.of d 0 0 (hcl n_fault_0 rfl [5] _ _ _ (hB.2.2.2 c1) mr) (Nat.le_refl _) (Nat.zero_le _) (Nat.zero_le _) (fun z4 S4 V4 hq4 => ?_))
    obtain ⟨rfl, M4, hc5, mr4, hf4⟩ := hq4
    have mf4 := MF.trans mf hf4
    refine X_istore_n dX12_readCase_16 (by decide) rfl ?_
    exact X_ret (z := 0) dX12_readCase_17 rfl (fun _ => trivial) ⟨rfl, _, hc5, mr4, mf4⟩
def B_readCase_26 (rc : MP) (cl : MC) (Q : Int → Mem → Prop) (d : Nat) (x1 x2 x3 : Int) (M : Mem) : Prop := 0 ≤ x1 ∧ x1 < 360 ∧ ((M 30 x1) ≤ x3 → cl n_newName_0 [x2] M (fun z2 M2 => ((M2 0 46) ≤ 0 → -2147483648 ≤ 12 * x1 ∧ 12 * x1 ≤ 2147483647 ∧ 0 ≤ x1 ∧ x1 < 360 ∧ -2147483648 ≤ (12 * x1) + (M2 30 x1) ∧ (12 * x1) + (M2 30 x1) ≤ 2147483647 ∧ 0 ≤ ((12 * x1) + (M2 30 x1)) ∧ ((12 * x1) + (M2 30 x1)) < 4320 ∧ -2147483648 ≤ (M2 30 x1) + 1 ∧ (M2 30 x1) + 1 ≤ 2147483647 ∧ -2147483648 ≤ (-1) - ((12 * x1) + (M2 30 x1)) ∧ (-1) - ((12 * x1) + (M2 30 x1)) ≤ 2147483647 ∧ 0 ≤ (M2 0 51) ∧ (M2 0 51) < 3100 ∧ -2147483648 ≤ (M2 0 51) + 1 ∧ (M2 0 51) + 1 ≤ 2147483647 ∧ cl n_next_0 [] (up (up (up (up (up (up M2 31 ((12 * x1) + (M2 30 x1)) z2) 30 x1 ((M2 30 x1) + 1)) 48 (M2 0 51) ((-1) - ((12 * x1) + (M2 30 x1)))) 49 (M2 0 51) (-1)) 50 (M2 0 51) z2) 0 51 ((M2 0 51) + 1)) (fun z5 M5 => cl n_sign_0 [58] M5 (fun z7 M7 => cl n_readExpr_0 [0, 0, 0] M7 (fun z9 M9 => 0 ≤ ((12 * x1) + (M2 30 x1)) ∧ ((12 * x1) + (M2 30 x1)) < 4320 ∧ cl n_sign_0 [59] (up M9 33 ((12 * x1) + (M2 30 x1)) z9) (fun z11 M11 => Q 0 M11))))) ∧ (¬ ((M2 0 46) ≤ 0) → Q 0 M2))) ∧ (¬ ((M 30 x1) ≤ x3) → cl n_isName_0 [] M (fun z13 M13 => (z13 = 0 → cl n_newName_0 [x2] M13 (fun z16 M16 => ((M16 0 46) ≤ 0 → -2147483648 ≤ 12 * x1 ∧ 12 * x1 ≤ 2147483647 ∧ 0 ≤ x1 ∧ x1 < 360 ∧ -2147483648 ≤ (12 * x1) + (M16 30 x1) ∧ (12 * x1) + (M16 30 x1) ≤ 2147483647 ∧ 0 ≤ ((12 * x1) + (M16 30 x1)) ∧ ((12 * x1) + (M16 30 x1)) < 4320 ∧ -2147483648 ≤ (M16 30 x1) + 1 ∧ (M16 30 x1) + 1 ≤ 2147483647 ∧ -2147483648 ≤ (-1) - ((12 * x1) + (M16 30 x1)) ∧ (-1) - ((12 * x1) + (M16 30 x1)) ≤ 2147483647 ∧ 0 ≤ (M16 0 51) ∧ (M16 0 51) < 3100 ∧ -2147483648 ≤ (M16 0 51) + 1 ∧ (M16 0 51) + 1 ≤ 2147483647 ∧ cl n_next_0 [] (up (up (up (up (up (up M16 31 ((12 * x1) + (M16 30 x1)) z16) 30 x1 ((M16 30 x1) + 1)) 48 (M16 0 51) ((-1) - ((12 * x1) + (M16 30 x1)))) 49 (M16 0 51) (-1)) 50 (M16 0 51) z16) 0 51 ((M16 0 51) + 1)) (fun z19 M19 => cl n_sign_0 [58] M19 (fun z21 M21 => cl n_readExpr_0 [0, 0, 0] M21 (fun z23 M23 => 0 ≤ ((12 * x1) + (M16 30 x1)) ∧ ((12 * x1) + (M16 30 x1)) < 4320 ∧ cl n_sign_0 [59] (up M23 33 ((12 * x1) + (M16 30 x1)) z23) (fun z25 M25 => Q 0 M25))))) ∧ (¬ ((M16 0 46) ≤ 0) → Q 0 M16))) ∧ (¬ (z13 = 0) → (x2 ≠ 0 → -2147483648 ≤ x3 + 1 ∧ x3 + 1 ≤ 2147483647 ∧ rc n_readCase_26 [x1, 1, x3 + 1] M13) ∧ (¬ (x2 ≠ 0) → cl n_nameHere_0 [] M13 (fun z28 M28 => -2147483648 ≤ 12 * x1 ∧ 12 * x1 ≤ 2147483647 ∧ -2147483648 ≤ (12 * x1) + x3 ∧ (12 * x1) + x3 ≤ 2147483647 ∧ 0 ≤ ((12 * x1) + x3) ∧ ((12 * x1) + x3) < 4320 ∧ cl n_isSame_0 [z28, M28 31 ((12 * x1) + x3)] M28 (fun z30 M30 => (z30 = 0 → -2147483648 ≤ x3 + 1 ∧ x3 + 1 ≤ 2147483647 ∧ rc n_readCase_26 [x1, 0, x3 + 1] M30) ∧ (¬ (z30 = 0) → -2147483648 ≤ x3 + 1 ∧ x3 + 1 ≤ 2147483647 ∧ rc n_readCase_26 [x1, 1, x3 + 1] M30)))))))
set_option maxRecDepth 10000 in
theorem s_readCase_26 {l : Launch} {G : GT} {m : Int} {a : Int → Int} {d mc ms : Nat} {S : Sh} {Q : Int → Mem → Prop} {rc : MP} {cl : MC} {V0 V M : Mem} {x1 x2 x3 : Int} (hrc : RCok l G m a S V0 Q d mc ms rc) (hcl : CLok l G m a S d cl) (mr : MR m a S V M) (mf : MF m a V0 V) (hB : B_readCase_26 rc cl Q d x1 x2 x3 M) : XJ l G bX12_readCase (Qm m a S V0 Q) (d + 1) 26 [vr m, vi x1, vi x2, vi x3, vu] [] S V mc ms := by
  unfold B_readCase_26 at hB
  refine X_iload_n dX12_readCase_26 rfl ?_
  refine X_aload_n dX12_readCase_27 rfl ?_
  refine X_getfield (ci := 12) (k := 30) (v := vr (a 30)) dX12_readCase_28 rfl (by decide) kf_RX12_77 (congrArg vr (MR.ar mr (k := 30) (by decide)).1) mr.1 ?_
  refine X_iload_n dX12_readCase_31 rfl ?_
  refine X_iaload dX12_readCase_32 ((MR.ar mr (k := 30) (by decide)).2.1.trans (by decide)) hB.1 (lt_eq hB.2.1 (MR.ln mr (k := 30) (by decide) (by decide))) ?_
  refine X_top (v := vi (M 30 x1)) (congrArg vi (MR.el mr (k := 30) (by decide) rfl)) ?_
  refine X_icmp_ge dX12_readCase_33 (tgt := 81) rfl (fun c1 => ?_) (fun c1 => ?_)
  · refine X_aload_n dX12_readCase_81 rfl ?_
    refine X_iload_n dX12_readCase_82 rfl ?_
    refine X_invV (ci := 12) (as := [vi x2]) (st := []) okX12_newName dX12_readCase_83 km_RX12_314 rfl rfl (Nat.le_of_ble_eq_true rfl) rfl rfl mr.1 (CT.of d 0 0 (hcl n_newName_0 rfl [x2] _ _ _ (hB.2.2.1 c1) mr) (Nat.le_refl _) (Nat.zero_le _) (Nat.zero_le _) (fun z2 S2 V2 hq2 => ?_))
    obtain ⟨rfl, M2, hc3, mr2, hf2⟩ := hq2
    have mf2 := MF.trans mf hf2
    refine X_istore_n dX12_readCase_86 (by decide) rfl ?_
    refine X_aload_n dX12_readCase_87 rfl ?_
    refine X_getfield (ci := 12) (k := 46) (v := vi (M2 0 46)) dX12_readCase_88 rfl (by decide) kf_RX12_275 (congrArg vi (MR.in_ mr2 (k := 46) (by decide) rfl)) mr2.1 ?_
    refine X_if_le dX12_readCase_91 (tgt := 95) rfl (fun c4 => ?_) (fun c4 => ?_)
    · refine X_bipush dX12_readCase_95 (by decide) (by decide) ?_
      refine X_iload_n dX12_readCase_97 rfl ?_
      refine X_imulN dX12_readCase_98 (hc3.1 c4).1 (hc3.1 c4).2.1 ?_
      refine X_aload_n dX12_readCase_99 rfl ?_
      refine X_getfield (ci := 12) (k := 30) (v := vr (a 30)) dX12_readCase_100 rfl (by decide) kf_RX12_77 (congrArg vr (MR.ar mr2 (k := 30) (by decide)).1) mr2.1 ?_
      refine X_iload_n dX12_readCase_103 rfl ?_
      refine X_iaload dX12_readCase_104 ((MR.ar mr2 (k := 30) (by decide)).2.1.trans (by decide)) (hc3.1 c4).2.2.1 (lt_eq (hc3.1 c4).2.2.2.1 (MR.ln mr2 (k := 30) (by decide) (by decide))) ?_
      refine X_top (v := vi (M2 30 x1)) (congrArg vi (MR.el mr2 (k := 30) (by decide) rfl)) ?_
      refine X_iaddN dX12_readCase_105 (hc3.1 c4).2.2.2.2.1 (hc3.1 c4).2.2.2.2.2.1 ?_
      refine X_istore dX12_readCase_106 (by decide) rfl ?_
      refine X_aload_n dX12_readCase_108 rfl ?_
      refine X_getfield (ci := 12) (k := 31) (v := vr (a 31)) dX12_readCase_109 rfl (by decide) kf_RX12_80 (congrArg vr (MR.ar mr2 (k := 31) (by decide)).1) mr2.1 ?_
      refine X_iload dX12_readCase_112 rfl ?_
      refine X_iload_n dX12_readCase_114 rfl ?_
      refine X_iastore dX12_readCase_115 ((MR.ar mr2 (k := 31) (by decide)).2.1.trans (by decide)) (hc3.1 c4).2.2.2.2.2.2.1 (lt_eq (hc3.1 c4).2.2.2.2.2.2.2.1 (MR.ln mr2 (k := 31) (by decide) (by decide))) ?_
      refine X_aload_n dX12_readCase_116 rfl ?_
      refine X_getfield (ci := 12) (k := 30) (v := vr (a 30)) dX12_readCase_117 rfl (by decide) kf_RX12_77 (congrArg vr (MR.ar (MR.putA mr2 (k := 31) (j := (12 * x1) + (M2 30 x1)) (z := z2) (by decide)) (k := 30) (by decide)).1) (MR.putA mr2 (k := 31) (j := (12 * x1) + (M2 30 x1)) (z := z2) (by decide)).1 ?_
      refine X_iload_n dX12_readCase_120 rfl ?_
      refine X_dup2 dX12_readCase_121 rfl (rv_cat _) ?_
      refine X_iaload dX12_readCase_122 ((MR.ar (MR.putA mr2 (k := 31) (j := (12 * x1) + (M2 30 x1)) (z := z2) (by decide)) (k := 30) (by decide)).2.1.trans (by decide)) (hc3.1 c4).2.2.1 (lt_eq (hc3.1 c4).2.2.2.1 (MR.ln (MR.putA mr2 (k := 31) (j := (12 * x1) + (M2 30 x1)) (z := z2) (by decide)) (k := 30) (by decide) (by decide))) ?_
      refine X_top (v := vi (M2 30 x1)) (congrArg vi (MR.el (MR.putA mr2 (k := 31) (j := (12 * x1) + (M2 30 x1)) (z := z2) (by decide)) (k := 30) (by decide) (up_ne (Or.inl (by decide))))) ?_
      refine X_iconst dX12_readCase_123 (by decide) ?_
      refine X_iaddN dX12_readCase_124 (hc3.1 c4).2.2.2.2.2.2.2.2.1 (hc3.1 c4).2.2.2.2.2.2.2.2.2.1 ?_
      refine X_iastore dX12_readCase_125 ((MR.ar (MR.putA mr2 (k := 31) (j := (12 * x1) + (M2 30 x1)) (z := z2) (by decide)) (k := 30) (by decide)).2.1.trans (by decide)) (hc3.1 c4).2.2.1 (lt_eq (hc3.1 c4).2.2.2.1 (MR.ln (MR.putA mr2 (k := 31) (j := (12 * x1) + (M2 30 x1)) (z := z2) (by decide)) (k := 30) (by decide) (by decide))) ?_
      refine X_aload_n dX12_readCase_126 rfl ?_
      refine X_getfield (ci := 12) (k := 48) (v := vr (a 48)) dX12_readCase_127 rfl (by decide) kf_RX12_107 (congrArg vr (MR.ar (MR.putA (MR.putA mr2 (k := 31) (j := (12 * x1) + (M2 30 x1)) (z := z2) (by decide)) (k := 30) (j := x1) (z := (M2 30 x1) + 1) (by decide)) (k := 48) (by decide)).1) (MR.putA (MR.putA mr2 (k := 31) (j := (12 * x1) + (M2 30 x1)) (z := z2) (by decide)) (k := 30) (j := x1) (z := (M2 30 x1) + 1) (by decide)).1 ?_
      refine X_aload_n dX12_readCase_130 rfl ?_
      refine X_getfield (ci := 12) (k := 51) (v := vi (M2 0 51)) dX12_readCase_131 rfl (by decide) kf_RX12_301 (congrArg vi (MR.in_ (MR.putA (MR.putA mr2 (k := 31) (j := (12 * x1) + (M2 30 x1)) (z := z2) (by decide)) (k := 30) (j := x1) (z := (M2 30 x1) + 1) (by decide)) (k := 51) (by decide) ((up_ne (Or.inl (by decide))).trans (up_ne (Or.inl (by decide)))))) (MR.putA (MR.putA mr2 (k := 31) (j := (12 * x1) + (M2 30 x1)) (z := z2) (by decide)) (k := 30) (j := x1) (z := (M2 30 x1) + 1) (by decide)).1 ?_
      refine X_iconst dX12_readCase_134 (by decide) ?_
      refine X_iload dX12_readCase_135 rfl ?_
      refine X_isubN dX12_readCase_137 (hc3.1 c4).2.2.2.2.2.2.2.2.2.2.1 (hc3.1 c4).2.2.2.2.2.2.2.2.2.2.2.1 ?_
      refine X_iastore dX12_readCase_138 ((MR.ar (MR.putA (MR.putA mr2 (k := 31) (j := (12 * x1) + (M2 30 x1)) (z := z2) (by decide)) (k := 30) (j := x1) (z := (M2 30 x1) + 1) (by decide)) (k := 48) (by decide)).2.1.trans (by decide)) (hc3.1 c4).2.2.2.2.2.2.2.2.2.2.2.2.1 (lt_eq (hc3.1 c4).2.2.2.2.2.2.2.2.2.2.2.2.2.1 (MR.ln (MR.putA (MR.putA mr2 (k := 31) (j := (12 * x1) + (M2 30 x1)) (z := z2) (by decide)) (k := 30) (j := x1) (z := (M2 30 x1) + 1) (by decide)) (k := 48) (by decide) (by decide))) ?_
      refine X_aload_n dX12_readCase_139 rfl ?_
      refine X_getfield (ci := 12) (k := 49) (v := vr (a 49)) dX12_readCase_140 rfl (by decide) kf_RX12_110 (congrArg vr (MR.ar (MR.putA (MR.putA (MR.putA mr2 (k := 31) (j := (12 * x1) + (M2 30 x1)) (z := z2) (by decide)) (k := 30) (j := x1) (z := (M2 30 x1) + 1) (by decide)) (k := 48) (j := M2 0 51) (z := (-1) - ((12 * x1) + (M2 30 x1))) (by decide)) (k := 49) (by decide)).1) (MR.putA (MR.putA (MR.putA mr2 (k := 31) (j := (12 * x1) + (M2 30 x1)) (z := z2) (by decide)) (k := 30) (j := x1) (z := (M2 30 x1) + 1) (by decide)) (k := 48) (j := M2 0 51) (z := (-1) - ((12 * x1) + (M2 30 x1))) (by decide)).1 ?_
      refine X_aload_n dX12_readCase_143 rfl ?_
      refine X_getfield (ci := 12) (k := 51) (v := vi (M2 0 51)) dX12_readCase_144 rfl (by decide) kf_RX12_301 (congrArg vi (MR.in_ (MR.putA (MR.putA (MR.putA mr2 (k := 31) (j := (12 * x1) + (M2 30 x1)) (z := z2) (by decide)) (k := 30) (j := x1) (z := (M2 30 x1) + 1) (by decide)) (k := 48) (j := M2 0 51) (z := (-1) - ((12 * x1) + (M2 30 x1))) (by decide)) (k := 51) (by decide) ((up_ne (Or.inl (by decide))).trans ((up_ne (Or.inl (by decide))).trans (up_ne (Or.inl (by decide))))))) (MR.putA (MR.putA (MR.putA mr2 (k := 31) (j := (12 * x1) + (M2 30 x1)) (z := z2) (by decide)) (k := 30) (j := x1) (z := (M2 30 x1) + 1) (by decide)) (k := 48) (j := M2 0 51) (z := (-1) - ((12 * x1) + (M2 30 x1))) (by decide)).1 ?_
      refine X_iconst dX12_readCase_147 (by decide) ?_
      refine X_iastore dX12_readCase_148 ((MR.ar (MR.putA (MR.putA (MR.putA mr2 (k := 31) (j := (12 * x1) + (M2 30 x1)) (z := z2) (by decide)) (k := 30) (j := x1) (z := (M2 30 x1) + 1) (by decide)) (k := 48) (j := M2 0 51) (z := (-1) - ((12 * x1) + (M2 30 x1))) (by decide)) (k := 49) (by decide)).2.1.trans (by decide)) (hc3.1 c4).2.2.2.2.2.2.2.2.2.2.2.2.1 (lt_eq (hc3.1 c4).2.2.2.2.2.2.2.2.2.2.2.2.2.1 (MR.ln (MR.putA (MR.putA (MR.putA mr2 (k := 31) (j := (12 * x1) + (M2 30 x1)) (z := z2) (by decide)) (k := 30) (j := x1) (z := (M2 30 x1) + 1) (by decide)) (k := 48) (j := M2 0 51) (z := (-1) - ((12 * x1) + (M2 30 x1))) (by decide)) (k := 49) (by decide) (by decide))) ?_
      refine X_aload_n dX12_readCase_149 rfl ?_
      refine X_getfield (ci := 12) (k := 50) (v := vr (a 50)) dX12_readCase_150 rfl (by decide) kf_RX12_113 (congrArg vr (MR.ar (MR.putA (MR.putA (MR.putA (MR.putA mr2 (k := 31) (j := (12 * x1) + (M2 30 x1)) (z := z2) (by decide)) (k := 30) (j := x1) (z := (M2 30 x1) + 1) (by decide)) (k := 48) (j := M2 0 51) (z := (-1) - ((12 * x1) + (M2 30 x1))) (by decide)) (k := 49) (j := M2 0 51) (z := (-1)) (by decide)) (k := 50) (by decide)).1) (MR.putA (MR.putA (MR.putA (MR.putA mr2 (k := 31) (j := (12 * x1) + (M2 30 x1)) (z := z2) (by decide)) (k := 30) (j := x1) (z := (M2 30 x1) + 1) (by decide)) (k := 48) (j := M2 0 51) (z := (-1) - ((12 * x1) + (M2 30 x1))) (by decide)) (k := 49) (j := M2 0 51) (z := (-1)) (by decide)).1 ?_
      refine X_aload_n dX12_readCase_153 rfl ?_
      refine X_getfield (ci := 12) (k := 51) (v := vi (M2 0 51)) dX12_readCase_154 rfl (by decide) kf_RX12_301 (congrArg vi (MR.in_ (MR.putA (MR.putA (MR.putA (MR.putA mr2 (k := 31) (j := (12 * x1) + (M2 30 x1)) (z := z2) (by decide)) (k := 30) (j := x1) (z := (M2 30 x1) + 1) (by decide)) (k := 48) (j := M2 0 51) (z := (-1) - ((12 * x1) + (M2 30 x1))) (by decide)) (k := 49) (j := M2 0 51) (z := (-1)) (by decide)) (k := 51) (by decide) ((up_ne (Or.inl (by decide))).trans ((up_ne (Or.inl (by decide))).trans ((up_ne (Or.inl (by decide))).trans (up_ne (Or.inl (by decide)))))))) (MR.putA (MR.putA (MR.putA (MR.putA mr2 (k := 31) (j := (12 * x1) + (M2 30 x1)) (z := z2) (by decide)) (k := 30) (j := x1) (z := (M2 30 x1) + 1) (by decide)) (k := 48) (j := M2 0 51) (z := (-1) - ((12 * x1) + (M2 30 x1))) (by decide)) (k := 49) (j := M2 0 51) (z := (-1)) (by decide)).1 ?_
      refine X_iload_n dX12_readCase_157 rfl ?_
      refine X_iastore dX12_readCase_158 ((MR.ar (MR.putA (MR.putA (MR.putA (MR.putA mr2 (k := 31) (j := (12 * x1) + (M2 30 x1)) (z := z2) (by decide)) (k := 30) (j := x1) (z := (M2 30 x1) + 1) (by decide)) (k := 48) (j := M2 0 51) (z := (-1) - ((12 * x1) + (M2 30 x1))) (by decide)) (k := 49) (j := M2 0 51) (z := (-1)) (by decide)) (k := 50) (by decide)).2.1.trans (by decide)) (hc3.1 c4).2.2.2.2.2.2.2.2.2.2.2.2.1 (lt_eq (hc3.1 c4).2.2.2.2.2.2.2.2.2.2.2.2.2.1 (MR.ln (MR.putA (MR.putA (MR.putA (MR.putA mr2 (k := 31) (j := (12 * x1) + (M2 30 x1)) (z := z2) (by decide)) (k := 30) (j := x1) (z := (M2 30 x1) + 1) (by decide)) (k := 48) (j := M2 0 51) (z := (-1) - ((12 * x1) + (M2 30 x1))) (by decide)) (k := 49) (j := M2 0 51) (z := (-1)) (by decide)) (k := 50) (by decide) (by decide))) ?_
      refine X_aload_n dX12_readCase_159 rfl ?_
      refine X_dup dX12_readCase_160 (rv_cat _) ?_
      refine X_getfield (ci := 12) (k := 51) (v := vi (M2 0 51)) dX12_readCase_161 rfl (by decide) kf_RX12_301 (congrArg vi (MR.in_ (MR.putA (MR.putA (MR.putA (MR.putA (MR.putA mr2 (k := 31) (j := (12 * x1) + (M2 30 x1)) (z := z2) (by decide)) (k := 30) (j := x1) (z := (M2 30 x1) + 1) (by decide)) (k := 48) (j := M2 0 51) (z := (-1) - ((12 * x1) + (M2 30 x1))) (by decide)) (k := 49) (j := M2 0 51) (z := (-1)) (by decide)) (k := 50) (j := M2 0 51) (z := z2) (by decide)) (k := 51) (by decide) ((up_ne (Or.inl (by decide))).trans ((up_ne (Or.inl (by decide))).trans ((up_ne (Or.inl (by decide))).trans ((up_ne (Or.inl (by decide))).trans (up_ne (Or.inl (by decide))))))))) (MR.putA (MR.putA (MR.putA (MR.putA (MR.putA mr2 (k := 31) (j := (12 * x1) + (M2 30 x1)) (z := z2) (by decide)) (k := 30) (j := x1) (z := (M2 30 x1) + 1) (by decide)) (k := 48) (j := M2 0 51) (z := (-1) - ((12 * x1) + (M2 30 x1))) (by decide)) (k := 49) (j := M2 0 51) (z := (-1)) (by decide)) (k := 50) (j := M2 0 51) (z := z2) (by decide)).1 ?_
      refine X_iconst dX12_readCase_164 (by decide) ?_
      refine X_iaddN dX12_readCase_165 (hc3.1 c4).2.2.2.2.2.2.2.2.2.2.2.2.2.2.1 (hc3.1 c4).2.2.2.2.2.2.2.2.2.2.2.2.2.2.2.1 ?_
      refine X_putfield (ci := 12) (k := 51) (z := ((M2 0 51) + 1)) dX12_readCase_166 rfl (by decide) kf_RX12_301 (Or.inl rfl) (Or.inl rfl) rfl (fun hv => hv) (MR.putA (MR.putA (MR.putA (MR.putA (MR.putA mr2 (k := 31) (j := (12 * x1) + (M2 30 x1)) (z := z2) (by decide)) (k := 30) (j := x1) (z := (M2 30 x1) + 1) (by decide)) (k := 48) (j := M2 0 51) (z := (-1) - ((12 * x1) + (M2 30 x1))) (by decide)) (k := 49) (j := M2 0 51) (z := (-1)) (by decide)) (k := 50) (j := M2 0 51) (z := z2) (by decide)).1 ?_
      refine X_aload_n dX12_readCase_169 rfl ?_
      refine X_invV (ci := 12) (as := []) (st := []) okX12_next dX12_readCase_170 km_RX12_285 rfl rfl (Nat.le_of_ble_eq_true rfl) rfl rfl (MR.putI (MR.putA (MR.putA (MR.putA (MR.putA (MR.putA mr2 (k := 31) (j := (12 * x1) + (M2 30 x1)) (z := z2) (by decide)) (k := 30) (j := x1) (z := (M2 30 x1) + 1) (by decide)) (k := 48) (j := M2 0 51) (z := (-1) - ((12 * x1) + (M2 30 x1))) (by decide)) (k := 49) (j := M2 0 51) (z := (-1)) (by decide)) (k := 50) (j := M2 0 51) (z := z2) (by decide)) (k := 51) (z := (M2 0 51) + 1) (by decide)).1 (CT.of d 0 0 (hcl n_next_0 rfl [] _ _ _ (hc3.1 c4).2.2.2.2.2.2.2.2.2.2.2.2.2.2.2.2 (MR.putI (MR.putA (MR.putA (MR.putA (MR.putA (MR.putA mr2 (k := 31) (j := (12 * x1) + (M2 30 x1)) (z := z2) (by decide)) (k := 30) (j := x1) (z := (M2 30 x1) + 1) (by decide)) (k := 48) (j := M2 0 51) (z := (-1) - ((12 * x1) + (M2 30 x1))) (by decide)) (k := 49) (j := M2 0 51) (z := (-1)) (by decide)) (k := 50) (j := M2 0 51) (z := z2) (by decide)) (k := 51) (z := (M2 0 51) + 1) (by decide))) (Nat.le_refl _) (Nat.zero_le _) (Nat.zero_le _) (fun z5 S5 V5 hq5 => ?_))
      obtain ⟨rfl, M5, hc6, mr5, hf5⟩ := hq5
      have mf5 := MF.trans (MF.putI (MF.putA (MF.putA (MF.putA (MF.putA (MF.putA mf2 (k := 31) (j := (12 * x1) + (M2 30 x1)) (z := z2) (by decide)) (k := 30) (j := x1) (z := (M2 30 x1) + 1) (by decide)) (k := 48) (j := M2 0 51) (z := (-1) - ((12 * x1) + (M2 30 x1))) (by decide)) (k := 49) (j := M2 0 51) (z := (-1)) (by decide)) (k := 50) (j := M2 0 51) (z := z2) (by decide)) (k := 51) (z := (M2 0 51) + 1)) hf5
      refine X_aload_n dX12_readCase_173 rfl ?_
      refine X_bipush dX12_readCase_174 (by decide) (by decide) ?_
      refine X_invV (ci := 12) (as := [vi 58]) (st := []) okX12_sign dX12_readCase_176 km_RX12_318 rfl rfl (Nat.le_of_ble_eq_true rfl) rfl rfl mr5.1 (CT.of d 0 0 (hcl n_sign_0 rfl [58] _ _ _ hc6 mr5) (Nat.le_refl _) (Nat.zero_le _) (Nat.zero_le _) (fun z7 S7 V7 hq7 => ?_))
      obtain ⟨rfl, M7, hc8, mr7, hf7⟩ := hq7
      have mf7 := MF.trans mf5 hf7
      refine X_aload_n dX12_readCase_179 rfl ?_
      refine X_getfield (ci := 12) (k := 33) (v := vr (a 33)) dX12_readCase_180 rfl (by decide) kf_RX12_86 (congrArg vr (MR.ar mr7 (k := 33) (by decide)).1) mr7.1 ?_
      refine X_iload dX12_readCase_183 rfl ?_
      refine X_aload_n dX12_readCase_185 rfl ?_
      refine X_iconst dX12_readCase_186 (by decide) ?_
      refine X_iconst dX12_readCase_187 (by decide) ?_
      refine X_iconst dX12_readCase_188 (by decide) ?_
      refine X_invV (ci := 12) (as := [vi 0, vi 0, vi 0]) (st := [vi ((12 * x1) + (M2 30 x1)), vr (a 33)]) okX12_readExpr dX12_readCase_189 km_RX12_331 rfl rfl (Nat.le_of_ble_eq_true rfl) rfl rfl mr7.1 (CT.of d 0 0 (hcl n_readExpr_0 rfl [0, 0, 0] _ _ _ hc8 mr7) (Nat.le_refl _) (Nat.zero_le _) (Nat.zero_le _) (fun z9 S9 V9 hq9 => ?_))
      obtain ⟨rfl, M9, hc10, mr9, hf9⟩ := hq9
      have mf9 := MF.trans mf7 hf9
      refine X_iastore dX12_readCase_192 ((MR.ar mr9 (k := 33) (by decide)).2.1.trans (by decide)) hc10.1 (lt_eq hc10.2.1 (MR.ln mr9 (k := 33) (by decide) (by decide))) ?_
      refine X_aload_n dX12_readCase_193 rfl ?_
      refine X_bipush dX12_readCase_194 (by decide) (by decide) ?_
      refine X_invV (ci := 12) (as := [vi 59]) (st := []) okX12_sign dX12_readCase_196 km_RX12_318 rfl rfl (Nat.le_of_ble_eq_true rfl) rfl rfl (MR.putA mr9 (k := 33) (j := (12 * x1) + (M2 30 x1)) (z := z9) (by decide)).1 (CT.of d 0 0 (hcl n_sign_0 rfl [59] _ _ _ hc10.2.2 (MR.putA mr9 (k := 33) (j := (12 * x1) + (M2 30 x1)) (z := z9) (by decide))) (Nat.le_refl _) (Nat.zero_le _) (Nat.zero_le _) (fun z11 S11 V11 hq11 => ?_))
      obtain ⟨rfl, M11, hc12, mr11, hf11⟩ := hq11
      have mf11 := MF.trans (MF.putA mf9 (k := 33) (j := (12 * x1) + (M2 30 x1)) (z := z9) (by decide)) hf11
      exact X_ret (z := 0) dX12_readCase_199 rfl (fun _ => trivial) ⟨rfl, _, hc12, mr11, mf11⟩
    · exact X_ret (z := 0) dX12_readCase_94 rfl (fun _ => trivial) ⟨rfl, _, (hc3.2 c4), mr2, mf2⟩
  · refine X_aload_n dX12_readCase_36 rfl ?_
    refine X_invV (ci := 12) (as := []) (st := []) okX12_isName dX12_readCase_37 km_RX12_291 rfl rfl (Nat.le_of_ble_eq_true rfl) rfl rfl mr.1 (CT.of d 0 0 (hcl n_isName_0 rfl [] _ _ _ (hB.2.2.2 c1) mr) (Nat.le_refl _) (Nat.zero_le _) (Nat.zero_le _) (fun z13 S13 V13 hq13 => ?_))
    obtain ⟨rfl, M13, hc14, mr13, hf13⟩ := hq13
    have mf13 := MF.trans mf hf13
    refine X_if_eq dX12_readCase_40 (tgt := 81) rfl (fun c15 => ?_) (fun c15 => ?_)
    · refine X_aload_n dX12_readCase_81 rfl ?_
      refine X_iload_n dX12_readCase_82 rfl ?_
      refine X_invV (ci := 12) (as := [vi x2]) (st := []) okX12_newName dX12_readCase_83 km_RX12_314 rfl rfl (Nat.le_of_ble_eq_true rfl) rfl rfl mr13.1 (CT.of d 0 0 (hcl n_newName_0 rfl [x2] _ _ _ (hc14.1 c15) mr13) (Nat.le_refl _) (Nat.zero_le _) (Nat.zero_le _) (fun z16 S16 V16 hq16 => ?_))
      obtain ⟨rfl, M16, hc17, mr16, hf16⟩ := hq16
      have mf16 := MF.trans mf13 hf16
      refine X_istore_n dX12_readCase_86 (by decide) rfl ?_
      refine X_aload_n dX12_readCase_87 rfl ?_
      refine X_getfield (ci := 12) (k := 46) (v := vi (M16 0 46)) dX12_readCase_88 rfl (by decide) kf_RX12_275 (congrArg vi (MR.in_ mr16 (k := 46) (by decide) rfl)) mr16.1 ?_
      refine X_if_le dX12_readCase_91 (tgt := 95) rfl (fun c18 => ?_) (fun c18 => ?_)
      · refine X_bipush dX12_readCase_95 (by decide) (by decide) ?_
        refine X_iload_n dX12_readCase_97 rfl ?_
        refine X_imulN dX12_readCase_98 (hc17.1 c18).1 (hc17.1 c18).2.1 ?_
        refine X_aload_n dX12_readCase_99 rfl ?_
        refine X_getfield (ci := 12) (k := 30) (v := vr (a 30)) dX12_readCase_100 rfl (by decide) kf_RX12_77 (congrArg vr (MR.ar mr16 (k := 30) (by decide)).1) mr16.1 ?_
        refine X_iload_n dX12_readCase_103 rfl ?_
        refine X_iaload dX12_readCase_104 ((MR.ar mr16 (k := 30) (by decide)).2.1.trans (by decide)) (hc17.1 c18).2.2.1 (lt_eq (hc17.1 c18).2.2.2.1 (MR.ln mr16 (k := 30) (by decide) (by decide))) ?_
        refine X_top (v := vi (M16 30 x1)) (congrArg vi (MR.el mr16 (k := 30) (by decide) rfl)) ?_
        refine X_iaddN dX12_readCase_105 (hc17.1 c18).2.2.2.2.1 (hc17.1 c18).2.2.2.2.2.1 ?_
        refine X_istore dX12_readCase_106 (by decide) rfl ?_
        refine X_aload_n dX12_readCase_108 rfl ?_
        refine X_getfield (ci := 12) (k := 31) (v := vr (a 31)) dX12_readCase_109 rfl (by decide) kf_RX12_80 (congrArg vr (MR.ar mr16 (k := 31) (by decide)).1) mr16.1 ?_
        refine X_iload dX12_readCase_112 rfl ?_
        refine X_iload_n dX12_readCase_114 rfl ?_
        refine X_iastore dX12_readCase_115 ((MR.ar mr16 (k := 31) (by decide)).2.1.trans (by decide)) (hc17.1 c18).2.2.2.2.2.2.1 (lt_eq (hc17.1 c18).2.2.2.2.2.2.2.1 (MR.ln mr16 (k := 31) (by decide) (by decide))) ?_
        refine X_aload_n dX12_readCase_116 rfl ?_
        refine X_getfield (ci := 12) (k := 30) (v := vr (a 30)) dX12_readCase_117 rfl (by decide) kf_RX12_77 (congrArg vr (MR.ar (MR.putA mr16 (k := 31) (j := (12 * x1) + (M16 30 x1)) (z := z16) (by decide)) (k := 30) (by decide)).1) (MR.putA mr16 (k := 31) (j := (12 * x1) + (M16 30 x1)) (z := z16) (by decide)).1 ?_
        refine X_iload_n dX12_readCase_120 rfl ?_
        refine X_dup2 dX12_readCase_121 rfl (rv_cat _) ?_
        refine X_iaload dX12_readCase_122 ((MR.ar (MR.putA mr16 (k := 31) (j := (12 * x1) + (M16 30 x1)) (z := z16) (by decide)) (k := 30) (by decide)).2.1.trans (by decide)) (hc17.1 c18).2.2.1 (lt_eq (hc17.1 c18).2.2.2.1 (MR.ln (MR.putA mr16 (k := 31) (j := (12 * x1) + (M16 30 x1)) (z := z16) (by decide)) (k := 30) (by decide) (by decide))) ?_
        refine X_top (v := vi (M16 30 x1)) (congrArg vi (MR.el (MR.putA mr16 (k := 31) (j := (12 * x1) + (M16 30 x1)) (z := z16) (by decide)) (k := 30) (by decide) (up_ne (Or.inl (by decide))))) ?_
        refine X_iconst dX12_readCase_123 (by decide) ?_
        refine X_iaddN dX12_readCase_124 (hc17.1 c18).2.2.2.2.2.2.2.2.1 (hc17.1 c18).2.2.2.2.2.2.2.2.2.1 ?_
        refine X_iastore dX12_readCase_125 ((MR.ar (MR.putA mr16 (k := 31) (j := (12 * x1) + (M16 30 x1)) (z := z16) (by decide)) (k := 30) (by decide)).2.1.trans (by decide)) (hc17.1 c18).2.2.1 (lt_eq (hc17.1 c18).2.2.2.1 (MR.ln (MR.putA mr16 (k := 31) (j := (12 * x1) + (M16 30 x1)) (z := z16) (by decide)) (k := 30) (by decide) (by decide))) ?_
        refine X_aload_n dX12_readCase_126 rfl ?_
        refine X_getfield (ci := 12) (k := 48) (v := vr (a 48)) dX12_readCase_127 rfl (by decide) kf_RX12_107 (congrArg vr (MR.ar (MR.putA (MR.putA mr16 (k := 31) (j := (12 * x1) + (M16 30 x1)) (z := z16) (by decide)) (k := 30) (j := x1) (z := (M16 30 x1) + 1) (by decide)) (k := 48) (by decide)).1) (MR.putA (MR.putA mr16 (k := 31) (j := (12 * x1) + (M16 30 x1)) (z := z16) (by decide)) (k := 30) (j := x1) (z := (M16 30 x1) + 1) (by decide)).1 ?_
        refine X_aload_n dX12_readCase_130 rfl ?_
        refine X_getfield (ci := 12) (k := 51) (v := vi (M16 0 51)) dX12_readCase_131 rfl (by decide) kf_RX12_301 (congrArg vi (MR.in_ (MR.putA (MR.putA mr16 (k := 31) (j := (12 * x1) + (M16 30 x1)) (z := z16) (by decide)) (k := 30) (j := x1) (z := (M16 30 x1) + 1) (by decide)) (k := 51) (by decide) ((up_ne (Or.inl (by decide))).trans (up_ne (Or.inl (by decide)))))) (MR.putA (MR.putA mr16 (k := 31) (j := (12 * x1) + (M16 30 x1)) (z := z16) (by decide)) (k := 30) (j := x1) (z := (M16 30 x1) + 1) (by decide)).1 ?_
        refine X_iconst dX12_readCase_134 (by decide) ?_
        refine X_iload dX12_readCase_135 rfl ?_
        refine X_isubN dX12_readCase_137 (hc17.1 c18).2.2.2.2.2.2.2.2.2.2.1 (hc17.1 c18).2.2.2.2.2.2.2.2.2.2.2.1 ?_
        refine X_iastore dX12_readCase_138 ((MR.ar (MR.putA (MR.putA mr16 (k := 31) (j := (12 * x1) + (M16 30 x1)) (z := z16) (by decide)) (k := 30) (j := x1) (z := (M16 30 x1) + 1) (by decide)) (k := 48) (by decide)).2.1.trans (by decide)) (hc17.1 c18).2.2.2.2.2.2.2.2.2.2.2.2.1 (lt_eq (hc17.1 c18).2.2.2.2.2.2.2.2.2.2.2.2.2.1 (MR.ln (MR.putA (MR.putA mr16 (k := 31) (j := (12 * x1) + (M16 30 x1)) (z := z16) (by decide)) (k := 30) (j := x1) (z := (M16 30 x1) + 1) (by decide)) (k := 48) (by decide) (by decide))) ?_
        refine X_aload_n dX12_readCase_139 rfl ?_
        refine X_getfield (ci := 12) (k := 49) (v := vr (a 49)) dX12_readCase_140 rfl (by decide) kf_RX12_110 (congrArg vr (MR.ar (MR.putA (MR.putA (MR.putA mr16 (k := 31) (j := (12 * x1) + (M16 30 x1)) (z := z16) (by decide)) (k := 30) (j := x1) (z := (M16 30 x1) + 1) (by decide)) (k := 48) (j := M16 0 51) (z := (-1) - ((12 * x1) + (M16 30 x1))) (by decide)) (k := 49) (by decide)).1) (MR.putA (MR.putA (MR.putA mr16 (k := 31) (j := (12 * x1) + (M16 30 x1)) (z := z16) (by decide)) (k := 30) (j := x1) (z := (M16 30 x1) + 1) (by decide)) (k := 48) (j := M16 0 51) (z := (-1) - ((12 * x1) + (M16 30 x1))) (by decide)).1 ?_
        refine X_aload_n dX12_readCase_143 rfl ?_
        refine X_getfield (ci := 12) (k := 51) (v := vi (M16 0 51)) dX12_readCase_144 rfl (by decide) kf_RX12_301 (congrArg vi (MR.in_ (MR.putA (MR.putA (MR.putA mr16 (k := 31) (j := (12 * x1) + (M16 30 x1)) (z := z16) (by decide)) (k := 30) (j := x1) (z := (M16 30 x1) + 1) (by decide)) (k := 48) (j := M16 0 51) (z := (-1) - ((12 * x1) + (M16 30 x1))) (by decide)) (k := 51) (by decide) ((up_ne (Or.inl (by decide))).trans ((up_ne (Or.inl (by decide))).trans (up_ne (Or.inl (by decide))))))) (MR.putA (MR.putA (MR.putA mr16 (k := 31) (j := (12 * x1) + (M16 30 x1)) (z := z16) (by decide)) (k := 30) (j := x1) (z := (M16 30 x1) + 1) (by decide)) (k := 48) (j := M16 0 51) (z := (-1) - ((12 * x1) + (M16 30 x1))) (by decide)).1 ?_
        refine X_iconst dX12_readCase_147 (by decide) ?_
        refine X_iastore dX12_readCase_148 ((MR.ar (MR.putA (MR.putA (MR.putA mr16 (k := 31) (j := (12 * x1) + (M16 30 x1)) (z := z16) (by decide)) (k := 30) (j := x1) (z := (M16 30 x1) + 1) (by decide)) (k := 48) (j := M16 0 51) (z := (-1) - ((12 * x1) + (M16 30 x1))) (by decide)) (k := 49) (by decide)).2.1.trans (by decide)) (hc17.1 c18).2.2.2.2.2.2.2.2.2.2.2.2.1 (lt_eq (hc17.1 c18).2.2.2.2.2.2.2.2.2.2.2.2.2.1 (MR.ln (MR.putA (MR.putA (MR.putA mr16 (k := 31) (j := (12 * x1) + (M16 30 x1)) (z := z16) (by decide)) (k := 30) (j := x1) (z := (M16 30 x1) + 1) (by decide)) (k := 48) (j := M16 0 51) (z := (-1) - ((12 * x1) + (M16 30 x1))) (by decide)) (k := 49) (by decide) (by decide))) ?_
        refine X_aload_n dX12_readCase_149 rfl ?_
        refine X_getfield (ci := 12) (k := 50) (v := vr (a 50)) dX12_readCase_150 rfl (by decide) kf_RX12_113 (congrArg vr (MR.ar (MR.putA (MR.putA (MR.putA (MR.putA mr16 (k := 31) (j := (12 * x1) + (M16 30 x1)) (z := z16) (by decide)) (k := 30) (j := x1) (z := (M16 30 x1) + 1) (by decide)) (k := 48) (j := M16 0 51) (z := (-1) - ((12 * x1) + (M16 30 x1))) (by decide)) (k := 49) (j := M16 0 51) (z := (-1)) (by decide)) (k := 50) (by decide)).1) (MR.putA (MR.putA (MR.putA (MR.putA mr16 (k := 31) (j := (12 * x1) + (M16 30 x1)) (z := z16) (by decide)) (k := 30) (j := x1) (z := (M16 30 x1) + 1) (by decide)) (k := 48) (j := M16 0 51) (z := (-1) - ((12 * x1) + (M16 30 x1))) (by decide)) (k := 49) (j := M16 0 51) (z := (-1)) (by decide)).1 ?_
        refine X_aload_n dX12_readCase_153 rfl ?_
        refine X_getfield (ci := 12) (k := 51) (v := vi (M16 0 51)) dX12_readCase_154 rfl (by decide) kf_RX12_301 (congrArg vi (MR.in_ (MR.putA (MR.putA (MR.putA (MR.putA mr16 (k := 31) (j := (12 * x1) + (M16 30 x1)) (z := z16) (by decide)) (k := 30) (j := x1) (z := (M16 30 x1) + 1) (by decide)) (k := 48) (j := M16 0 51) (z := (-1) - ((12 * x1) + (M16 30 x1))) (by decide)) (k := 49) (j := M16 0 51) (z := (-1)) (by decide)) (k := 51) (by decide) ((up_ne (Or.inl (by decide))).trans ((up_ne (Or.inl (by decide))).trans ((up_ne (Or.inl (by decide))).trans (up_ne (Or.inl (by decide)))))))) (MR.putA (MR.putA (MR.putA (MR.putA mr16 (k := 31) (j := (12 * x1) + (M16 30 x1)) (z := z16) (by decide)) (k := 30) (j := x1) (z := (M16 30 x1) + 1) (by decide)) (k := 48) (j := M16 0 51) (z := (-1) - ((12 * x1) + (M16 30 x1))) (by decide)) (k := 49) (j := M16 0 51) (z := (-1)) (by decide)).1 ?_
        refine X_iload_n dX12_readCase_157 rfl ?_
        refine X_iastore dX12_readCase_158 ((MR.ar (MR.putA (MR.putA (MR.putA (MR.putA mr16 (k := 31) (j := (12 * x1) + (M16 30 x1)) (z := z16) (by decide)) (k := 30) (j := x1) (z := (M16 30 x1) + 1) (by decide)) (k := 48) (j := M16 0 51) (z := (-1) - ((12 * x1) + (M16 30 x1))) (by decide)) (k := 49) (j := M16 0 51) (z := (-1)) (by decide)) (k := 50) (by decide)).2.1.trans (by decide)) (hc17.1 c18).2.2.2.2.2.2.2.2.2.2.2.2.1 (lt_eq (hc17.1 c18).2.2.2.2.2.2.2.2.2.2.2.2.2.1 (MR.ln (MR.putA (MR.putA (MR.putA (MR.putA mr16 (k := 31) (j := (12 * x1) + (M16 30 x1)) (z := z16) (by decide)) (k := 30) (j := x1) (z := (M16 30 x1) + 1) (by decide)) (k := 48) (j := M16 0 51) (z := (-1) - ((12 * x1) + (M16 30 x1))) (by decide)) (k := 49) (j := M16 0 51) (z := (-1)) (by decide)) (k := 50) (by decide) (by decide))) ?_
        refine X_aload_n dX12_readCase_159 rfl ?_
        refine X_dup dX12_readCase_160 (rv_cat _) ?_
        refine X_getfield (ci := 12) (k := 51) (v := vi (M16 0 51)) dX12_readCase_161 rfl (by decide) kf_RX12_301 (congrArg vi (MR.in_ (MR.putA (MR.putA (MR.putA (MR.putA (MR.putA mr16 (k := 31) (j := (12 * x1) + (M16 30 x1)) (z := z16) (by decide)) (k := 30) (j := x1) (z := (M16 30 x1) + 1) (by decide)) (k := 48) (j := M16 0 51) (z := (-1) - ((12 * x1) + (M16 30 x1))) (by decide)) (k := 49) (j := M16 0 51) (z := (-1)) (by decide)) (k := 50) (j := M16 0 51) (z := z16) (by decide)) (k := 51) (by decide) ((up_ne (Or.inl (by decide))).trans ((up_ne (Or.inl (by decide))).trans ((up_ne (Or.inl (by decide))).trans ((up_ne (Or.inl (by decide))).trans (up_ne (Or.inl (by decide))))))))) (MR.putA (MR.putA (MR.putA (MR.putA (MR.putA mr16 (k := 31) (j := (12 * x1) + (M16 30 x1)) (z := z16) (by decide)) (k := 30) (j := x1) (z := (M16 30 x1) + 1) (by decide)) (k := 48) (j := M16 0 51) (z := (-1) - ((12 * x1) + (M16 30 x1))) (by decide)) (k := 49) (j := M16 0 51) (z := (-1)) (by decide)) (k := 50) (j := M16 0 51) (z := z16) (by decide)).1 ?_
        refine X_iconst dX12_readCase_164 (by decide) ?_
        refine X_iaddN dX12_readCase_165 (hc17.1 c18).2.2.2.2.2.2.2.2.2.2.2.2.2.2.1 (hc17.1 c18).2.2.2.2.2.2.2.2.2.2.2.2.2.2.2.1 ?_
        refine X_putfield (ci := 12) (k := 51) (z := ((M16 0 51) + 1)) dX12_readCase_166 rfl (by decide) kf_RX12_301 (Or.inl rfl) (Or.inl rfl) rfl (fun hv => hv) (MR.putA (MR.putA (MR.putA (MR.putA (MR.putA mr16 (k := 31) (j := (12 * x1) + (M16 30 x1)) (z := z16) (by decide)) (k := 30) (j := x1) (z := (M16 30 x1) + 1) (by decide)) (k := 48) (j := M16 0 51) (z := (-1) - ((12 * x1) + (M16 30 x1))) (by decide)) (k := 49) (j := M16 0 51) (z := (-1)) (by decide)) (k := 50) (j := M16 0 51) (z := z16) (by decide)).1 ?_
        refine X_aload_n dX12_readCase_169 rfl ?_
        refine X_invV (ci := 12) (as := []) (st := []) okX12_next dX12_readCase_170 km_RX12_285 rfl rfl (Nat.le_of_ble_eq_true rfl) rfl rfl (MR.putI (MR.putA (MR.putA (MR.putA (MR.putA (MR.putA mr16 (k := 31) (j := (12 * x1) + (M16 30 x1)) (z := z16) (by decide)) (k := 30) (j := x1) (z := (M16 30 x1) + 1) (by decide)) (k := 48) (j := M16 0 51) (z := (-1) - ((12 * x1) + (M16 30 x1))) (by decide)) (k := 49) (j := M16 0 51) (z := (-1)) (by decide)) (k := 50) (j := M16 0 51) (z := z16) (by decide)) (k := 51) (z := (M16 0 51) + 1) (by decide)).1 (CT.of d 0 0 (hcl n_next_0 rfl [] _ _ _ (hc17.1 c18).2.2.2.2.2.2.2.2.2.2.2.2.2.2.2.2 (MR.putI (MR.putA (MR.putA (MR.putA (MR.putA (MR.putA mr16 (k := 31) (j := (12 * x1) + (M16 30 x1)) (z := z16) (by decide)) (k := 30) (j := x1) (z := (M16 30 x1) + 1) (by decide)) (k := 48) (j := M16 0 51) (z := (-1) - ((12 * x1) + (M16 30 x1))) (by decide)) (k := 49) (j := M16 0 51) (z := (-1)) (by decide)) (k := 50) (j := M16 0 51) (z := z16) (by decide)) (k := 51) (z := (M16 0 51) + 1) (by decide))) (Nat.le_refl _) (Nat.zero_le _) (Nat.zero_le _) (fun z19 S19 V19 hq19 => ?_))
        obtain ⟨rfl, M19, hc20, mr19, hf19⟩ := hq19
        have mf19 := MF.trans (MF.putI (MF.putA (MF.putA (MF.putA (MF.putA (MF.putA mf16 (k := 31) (j := (12 * x1) + (M16 30 x1)) (z := z16) (by decide)) (k := 30) (j := x1) (z := (M16 30 x1) + 1) (by decide)) (k := 48) (j := M16 0 51) (z := (-1) - ((12 * x1) + (M16 30 x1))) (by decide)) (k := 49) (j := M16 0 51) (z := (-1)) (by decide)) (k := 50) (j := M16 0 51) (z := z16) (by decide)) (k := 51) (z := (M16 0 51) + 1)) hf19
        refine X_aload_n dX12_readCase_173 rfl ?_
        refine X_bipush dX12_readCase_174 (by decide) (by decide) ?_
        refine X_invV (ci := 12) (as := [vi 58]) (st := []) okX12_sign dX12_readCase_176 km_RX12_318 rfl rfl (Nat.le_of_ble_eq_true rfl) rfl rfl mr19.1 (CT.of d 0 0 (hcl n_sign_0 rfl [58] _ _ _ hc20 mr19) (Nat.le_refl _) (Nat.zero_le _) (Nat.zero_le _) (fun z21 S21 V21 hq21 => ?_))
        obtain ⟨rfl, M21, hc22, mr21, hf21⟩ := hq21
        have mf21 := MF.trans mf19 hf21
        refine X_aload_n dX12_readCase_179 rfl ?_
        refine X_getfield (ci := 12) (k := 33) (v := vr (a 33)) dX12_readCase_180 rfl (by decide) kf_RX12_86 (congrArg vr (MR.ar mr21 (k := 33) (by decide)).1) mr21.1 ?_
        refine X_iload dX12_readCase_183 rfl ?_
        refine X_aload_n dX12_readCase_185 rfl ?_
        refine X_iconst dX12_readCase_186 (by decide) ?_
        refine X_iconst dX12_readCase_187 (by decide) ?_
        refine X_iconst dX12_readCase_188 (by decide) ?_
        refine X_invV (ci := 12) (as := [vi 0, vi 0, vi 0]) (st := [vi ((12 * x1) + (M16 30 x1)), vr (a 33)]) okX12_readExpr dX12_readCase_189 km_RX12_331 rfl rfl (Nat.le_of_ble_eq_true rfl) rfl rfl mr21.1 (CT.of d 0 0 (hcl n_readExpr_0 rfl [0, 0, 0] _ _ _ hc22 mr21) (Nat.le_refl _) (Nat.zero_le _) (Nat.zero_le _) (fun z23 S23 V23 hq23 => ?_))
        obtain ⟨rfl, M23, hc24, mr23, hf23⟩ := hq23
        have mf23 := MF.trans mf21 hf23
        refine X_iastore dX12_readCase_192 ((MR.ar mr23 (k := 33) (by decide)).2.1.trans (by decide)) hc24.1 (lt_eq hc24.2.1 (MR.ln mr23 (k := 33) (by decide) (by decide))) ?_
        refine X_aload_n dX12_readCase_193 rfl ?_
        refine X_bipush dX12_readCase_194 (by decide) (by decide) ?_
        refine X_invV (ci := 12) (as := [vi 59]) (st := []) okX12_sign dX12_readCase_196 km_RX12_318 rfl rfl (Nat.le_of_ble_eq_true rfl) rfl rfl (MR.putA mr23 (k := 33) (j := (12 * x1) + (M16 30 x1)) (z := z23) (by decide)).1 (CT.of d 0 0 (hcl n_sign_0 rfl [59] _ _ _ hc24.2.2 (MR.putA mr23 (k := 33) (j := (12 * x1) + (M16 30 x1)) (z := z23) (by decide))) (Nat.le_refl _) (Nat.zero_le _) (Nat.zero_le _) (fun z25 S25 V25 hq25 => ?_))
        obtain ⟨rfl, M25, hc26, mr25, hf25⟩ := hq25
        have mf25 := MF.trans (MF.putA mf23 (k := 33) (j := (12 * x1) + (M16 30 x1)) (z := z23) (by decide)) hf25
        exact X_ret (z := 0) dX12_readCase_199 rfl (fun _ => trivial) ⟨rfl, _, hc26, mr25, mf25⟩
      · exact X_ret (z := 0) dX12_readCase_94 rfl (fun _ => trivial) ⟨rfl, _, (hc17.2 c18), mr16, mf16⟩
    · refine X_iload_n dX12_readCase_43 rfl ?_
      refine X_if_ne dX12_readCase_44 (tgt := 69) rfl (fun c27 => ?_) (fun c27 => ?_)
      · refine X_iconst dX12_readCase_69 (by decide) ?_
        refine X_goto dX12_readCase_70 (tgt := 74) rfl ?_
        refine X_istore_n dX12_readCase_74 (by decide) rfl ?_
        refine X_iincN dX12_readCase_75 rfl (by decide) rfl (e := x3 + 1) rfl ((hc14.2 c15).1 c27).1 ((hc14.2 c15).1 c27).2.1 ?_
        refine X_goto dX12_readCase_78 (tgt := 26) rfl ?_
        exact hrc n_readCase_26 [x1, 1, x3 + 1] _ _ ((hc14.2 c15).1 c27).2.2 mr13 mf13
      · refine X_aload_n dX12_readCase_47 rfl ?_
        refine X_aload_n dX12_readCase_48 rfl ?_
        refine X_invV (ci := 12) (as := []) (st := [vr m]) okX12_nameHere dX12_readCase_49 km_RX12_294 rfl rfl (Nat.le_of_ble_eq_true rfl) rfl rfl mr13.1 (CT.of d 0 0 (hcl n_nameHere_0 rfl [] _ _ _ ((hc14.2 c15).2 c27) mr13) (Nat.le_refl _) (Nat.zero_le _) (Nat.zero_le _) (fun z28 S28 V28 hq28 => ?_))
        obtain ⟨rfl, M28, hc29, mr28, hf28⟩ := hq28
        have mf28 := MF.trans mf13 hf28
        refine X_aload_n dX12_readCase_52 rfl ?_
        refine X_getfield (ci := 12) (k := 31) (v := vr (a 31)) dX12_readCase_53 rfl (by decide) kf_RX12_80 (congrArg vr (MR.ar mr28 (k := 31) (by decide)).1) mr28.1 ?_
        refine X_bipush dX12_readCase_56 (by decide) (by decide) ?_
        refine X_iload_n dX12_readCase_58 rfl ?_
        refine X_imulN dX12_readCase_59 hc29.1 hc29.2.1 ?_
        refine X_iload_n dX12_readCase_60 rfl ?_
        refine X_iaddN dX12_readCase_61 hc29.2.2.1 hc29.2.2.2.1 ?_
        refine X_iaload dX12_readCase_62 ((MR.ar mr28 (k := 31) (by decide)).2.1.trans (by decide)) hc29.2.2.2.2.1 (lt_eq hc29.2.2.2.2.2.1 (MR.ln mr28 (k := 31) (by decide) (by decide))) ?_
        refine X_top (v := vi (M28 31 ((12 * x1) + x3))) (congrArg vi (MR.el mr28 (k := 31) (by decide) rfl)) ?_
        refine X_invV (ci := 12) (as := [vi z28, vi (M28 31 ((12 * x1) + x3))]) (st := []) okX12_isSame dX12_readCase_63 km_RX12_297 rfl rfl (Nat.le_of_ble_eq_true rfl) rfl rfl mr28.1 (CT.of d 0 0 (hcl n_isSame_0 rfl [z28, M28 31 ((12 * x1) + x3)] _ _ _ hc29.2.2.2.2.2.2 mr28) (Nat.le_refl _) (Nat.zero_le _) (Nat.zero_le _) (fun z30 S30 V30 hq30 => ?_))
        obtain ⟨rfl, M30, hc31, mr30, hf30⟩ := hq30
        have mf30 := MF.trans mf28 hf30
        refine X_if_eq dX12_readCase_66 (tgt := 73) rfl (fun c32 => ?_) (fun c32 => ?_)
        · refine X_iconst dX12_readCase_73 (by decide) ?_
          refine X_istore_n dX12_readCase_74 (by decide) rfl ?_
          refine X_iincN dX12_readCase_75 rfl (by decide) rfl (e := x3 + 1) rfl (hc31.1 c32).1 (hc31.1 c32).2.1 ?_
          refine X_goto dX12_readCase_78 (tgt := 26) rfl ?_
          exact hrc n_readCase_26 [x1, 0, x3 + 1] _ _ (hc31.1 c32).2.2 mr30 mf30
        · refine X_iconst dX12_readCase_69 (by decide) ?_
          refine X_goto dX12_readCase_70 (tgt := 74) rfl ?_
          refine X_istore_n dX12_readCase_74 (by decide) rfl ?_
          refine X_iincN dX12_readCase_75 rfl (by decide) rfl (e := x3 + 1) rfl (hc31.2 c32).1 (hc31.2 c32).2.1 ?_
          refine X_goto dX12_readCase_78 (tgt := 26) rfl ?_
          exact hrc n_readCase_26 [x1, 1, x3 + 1] _ _ (hc31.2 c32).2.2 mr30 mf30
def B_readExpr_0 (rc : MP) (cl : MC) (Q : Int → Mem → Prop) (d : Nat) (x1 x2 x3 : Int) (M : Mem) : Prop := ((M 0 46) ≤ 0 → (x1 = 0 ∨ x1 = 1) ∧ (x2 = 0 ∨ x2 = 1) ∧ (x3 = 0 ∨ x3 = 1) ∧ cl n_readSum_0 [] (up (up (up (up M 0 43 x1) 0 44 x2) 0 45 x3) 0 42 0) (fun z2 M2 => Q z2 M2)) ∧ (¬ ((M 0 46) ≤ 0) → Q (-1) M)
set_option maxRecDepth 10000 in
theorem s_readExpr_0 {l : Launch} {G : GT} {m : Int} {a : Int → Int} {d mc ms : Nat} {S : Sh} {Q : Int → Mem → Prop} {rc : MP} {cl : MC} {V0 V M : Mem} {x1 x2 x3 : Int} (hrc : RCok l G m a S V0 Q d mc ms rc) (hcl : CLok l G m a S d cl) (mr : MR m a S V M) (mf : MF m a V0 V) (hB : B_readExpr_0 rc cl Q d x1 x2 x3 M) : XJ l G bX12_readExpr (Qm m a S V0 Q) (d + 1) 0 [vr m, vi x1, vi x2, vi x3] [] S V mc ms := by
  unfold B_readExpr_0 at hB
  refine X_aload_n dX12_readExpr_0 rfl ?_
  refine X_getfield (ci := 12) (k := 46) (v := vi (M 0 46)) dX12_readExpr_1 rfl (by decide) kf_RX12_275 (congrArg vi (MR.in_ mr (k := 46) (by decide) rfl)) mr.1 ?_
  refine X_if_le dX12_readExpr_4 (tgt := 9) rfl (fun c1 => ?_) (fun c1 => ?_)
  · refine X_aload_n dX12_readExpr_9 rfl ?_
    refine X_iload_n dX12_readExpr_10 rfl ?_
    refine X_putfield (ci := 12) (k := 43) (z := x1) dX12_readExpr_11 rfl (by decide) kf_RX12_353 (Or.inr (Or.inr (Or.inl rfl))) (Or.inl rfl) rfl (fun _ => (hB.1 c1).1) mr.1 ?_
    refine X_aload_n dX12_readExpr_14 rfl ?_
    refine X_iload_n dX12_readExpr_15 rfl ?_
    refine X_putfield (ci := 12) (k := 44) (z := x2) dX12_readExpr_16 rfl (by decide) kf_RX12_357 (Or.inr (Or.inr (Or.inl rfl))) (Or.inl rfl) rfl (fun _ => (hB.1 c1).2.1) (MR.putI mr (k := 43) (z := x1) (by decide)).1 ?_
    refine X_aload_n dX12_readExpr_19 rfl ?_
    refine X_iload_n dX12_readExpr_20 rfl ?_
    refine X_putfield (ci := 12) (k := 45) (z := x3) dX12_readExpr_21 rfl (by decide) kf_RX12_360 (Or.inr (Or.inr (Or.inl rfl))) (Or.inl rfl) rfl (fun _ => (hB.1 c1).2.2.1) (MR.putI (MR.putI mr (k := 43) (z := x1) (by decide)) (k := 44) (z := x2) (by decide)).1 ?_
    refine X_aload_n dX12_readExpr_24 rfl ?_
    refine X_iconst dX12_readExpr_25 (by decide) ?_
    refine X_putfield (ci := 12) (k := 42) (z := 0) dX12_readExpr_26 rfl (by decide) kf_RX12_363 (Or.inl rfl) (Or.inl rfl) rfl (fun hv => hv) (MR.putI (MR.putI (MR.putI mr (k := 43) (z := x1) (by decide)) (k := 44) (z := x2) (by decide)) (k := 45) (z := x3) (by decide)).1 ?_
    refine X_aload_n dX12_readExpr_29 rfl ?_
    refine X_invV (ci := 12) (as := []) (st := []) okX12_readSum dX12_readExpr_30 km_RX12_366 rfl rfl (Nat.le_of_ble_eq_true rfl) rfl rfl (MR.putI (MR.putI (MR.putI (MR.putI mr (k := 43) (z := x1) (by decide)) (k := 44) (z := x2) (by decide)) (k := 45) (z := x3) (by decide)) (k := 42) (z := 0) (by decide)).1 (CT.of d 0 0 (hcl n_readSum_0 rfl [] _ _ _ (hB.1 c1).2.2.2 (MR.putI (MR.putI (MR.putI (MR.putI mr (k := 43) (z := x1) (by decide)) (k := 44) (z := x2) (by decide)) (k := 45) (z := x3) (by decide)) (k := 42) (z := 0) (by decide))) (Nat.le_refl _) (Nat.zero_le _) (Nat.zero_le _) (fun z2 S2 V2 hq2 => ?_))
    obtain ⟨rfl, M2, hc3, mr2, hf2⟩ := hq2
    have mf2 := MF.trans (MF.putI (MF.putI (MF.putI (MF.putI mf (k := 43) (z := x1)) (k := 44) (z := x2)) (k := 45) (z := x3)) (k := 42) (z := 0)) hf2
    exact X_ret (z := z2) dX12_readExpr_33 rfl (fun hv => vok_h hv) ⟨rfl, _, hc3, mr2, mf2⟩
  · refine X_iconst dX12_readExpr_7 (by decide) ?_
    exact X_ret (z := (-1)) dX12_readExpr_8 rfl (fun hv => vok_h hv) ⟨rfl, _, (hB.2 c1), mr, mf⟩
def B_readSum_0 (rc : MP) (cl : MC) (Q : Int → Mem → Prop) (d : Nat) (M : Mem) : Prop := cl n_readTerm_0 [] M (fun z1 M1 => rc n_readSum_5 [z1] M1)
set_option maxRecDepth 10000 in
theorem s_readSum_0 {l : Launch} {G : GT} {m : Int} {a : Int → Int} {d mc ms : Nat} {S : Sh} {Q : Int → Mem → Prop} {rc : MP} {cl : MC} {V0 V M : Mem} (hrc : RCok l G m a S V0 Q d mc ms rc) (hcl : CLok l G m a S d cl) (mr : MR m a S V M) (mf : MF m a V0 V) (hB : B_readSum_0 rc cl Q d  M) : XJ l G bX12_readSum (Qm m a S V0 Q) (d + 1) 0 [vr m, vu, vu, vu] [] S V mc ms := by
  unfold B_readSum_0 at hB
  refine X_aload_n dX12_readSum_0 rfl ?_
  refine X_invV (ci := 12) (as := []) (st := []) okX12_readTerm dX12_readSum_1 km_RX12_369 rfl rfl (Nat.le_of_ble_eq_true rfl) rfl rfl mr.1 (CT.of d 0 0 (hcl n_readTerm_0 rfl [] _ _ _ hB mr) (Nat.le_refl _) (Nat.zero_le _) (Nat.zero_le _) (fun z1 S1 V1 hq1 => ?_))
  obtain ⟨rfl, M1, hc2, mr1, hf1⟩ := hq1
  have mf1 := MF.trans mf hf1
  refine X_istore_n dX12_readSum_4 (by decide) rfl ?_
  exact hrc n_readSum_5 [z1] _ _ hc2 mr1 mf1
def B_readSum_5 (rc : MP) (cl : MC) (Q : Int → Mem → Prop) (d : Nat) (x1 : Int) (M : Mem) : Prop := ((M 0 46) ≠ 0 → Q x1 M) ∧ (¬ ((M 0 46) ≠ 0) → cl n_isSign_0 [43] M (fun z2 M2 => (z2 ≠ 0 → cl n_isSign_0 [43] M2 (fun z5 M5 => (z5 = 0 → cl n_next_0 [] M5 (fun z8 M8 => cl n_readTerm_0 [] M8 (fun z10 M10 => ((M10 0 46) ≠ 0 → rc n_readSum_5 [x1] M10) ∧ (¬ ((M10 0 46) ≠ 0) → cl n_expression_0 [3, x1, z10] M10 (fun z13 M13 => rc n_readSum_5 [z13] M13))))) ∧ (¬ (z5 = 0) → cl n_next_0 [] M5 (fun z15 M15 => cl n_readTerm_0 [] M15 (fun z17 M17 => ((M17 0 46) ≠ 0 → rc n_readSum_5 [x1] M17) ∧ (¬ ((M17 0 46) ≠ 0) → cl n_expression_0 [2, x1, z17] M17 (fun z20 M20 => rc n_readSum_5 [z20] M20))))))) ∧ (¬ (z2 ≠ 0) → cl n_isSign_0 [45] M2 (fun z22 M22 => (z22 = 0 → Q x1 M22) ∧ (¬ (z22 = 0) → cl n_isSign_0 [43] M22 (fun z25 M25 => (z25 = 0 → cl n_next_0 [] M25 (fun z28 M28 => cl n_readTerm_0 [] M28 (fun z30 M30 => ((M30 0 46) ≠ 0 → rc n_readSum_5 [x1] M30) ∧ (¬ ((M30 0 46) ≠ 0) → cl n_expression_0 [3, x1, z30] M30 (fun z33 M33 => rc n_readSum_5 [z33] M33))))) ∧ (¬ (z25 = 0) → cl n_next_0 [] M25 (fun z35 M35 => cl n_readTerm_0 [] M35 (fun z37 M37 => ((M37 0 46) ≠ 0 → rc n_readSum_5 [x1] M37) ∧ (¬ ((M37 0 46) ≠ 0) → cl n_expression_0 [2, x1, z37] M37 (fun z40 M40 => rc n_readSum_5 [z40] M40)))))))))))
set_option maxRecDepth 10000 in
theorem s_readSum_5 {l : Launch} {G : GT} {m : Int} {a : Int → Int} {d mc ms : Nat} {S : Sh} {Q : Int → Mem → Prop} {rc : MP} {cl : MC} {V0 V M : Mem} {x1 : Int} (hrc : RCok l G m a S V0 Q d mc ms rc) (hcl : CLok l G m a S d cl) (mr : MR m a S V M) (mf : MF m a V0 V) (hB : B_readSum_5 rc cl Q d x1 M) : XJ l G bX12_readSum (Qm m a S V0 Q) (d + 1) 5 [vr m, vi x1, vu, vu] [] S V mc ms := by
  unfold B_readSum_5 at hB
  refine X_aload_n dX12_readSum_5 rfl ?_
  refine X_getfield (ci := 12) (k := 46) (v := vi (M 0 46)) dX12_readSum_6 rfl (by decide) kf_RX12_275 (congrArg vi (MR.in_ mr (k := 46) (by decide) rfl)) mr.1 ?_
  refine X_if_ne dX12_readSum_9 (tgt := 72) rfl (fun c1 => ?_) (fun c1 => ?_)
  · refine X_iload_n dX12_readSum_72 rfl ?_
    exact X_ret (z := x1) dX12_readSum_73 rfl (fun hv => vok_h hv) ⟨rfl, _, (hB.1 c1), mr, mf⟩
  · refine X_aload_n dX12_readSum_12 rfl ?_
    refine X_bipush dX12_readSum_13 (by decide) (by decide) ?_
    refine X_invV (ci := 12) (as := [vi 43]) (st := []) okX12_isSign dX12_readSum_15 km_RX12_281 rfl rfl (Nat.le_of_ble_eq_true rfl) rfl rfl mr.1 (CT.of d 0 0 (hcl n_isSign_0 rfl [43] _ _ _ (hB.2 c1) mr) (Nat.le_refl _) (Nat.zero_le _) (Nat.zero_le _) (fun z2 S2 V2 hq2 => ?_))
    obtain ⟨rfl, M2, hc3, mr2, hf2⟩ := hq2
    have mf2 := MF.trans mf hf2
    refine X_if_ne dX12_readSum_18 (tgt := 30) rfl (fun c4 => ?_) (fun c4 => ?_)
    · refine X_aload_n dX12_readSum_30 rfl ?_
      refine X_bipush dX12_readSum_31 (by decide) (by decide) ?_
      refine X_invV (ci := 12) (as := [vi 43]) (st := []) okX12_isSign dX12_readSum_33 km_RX12_281 rfl rfl (Nat.le_of_ble_eq_true rfl) rfl rfl mr2.1 (CT.of d 0 0 (hcl n_isSign_0 rfl [43] _ _ _ (hc3.1 c4) mr2) (Nat.le_refl _) (Nat.zero_le _) (Nat.zero_le _) (fun z5 S5 V5 hq5 => ?_))
      obtain ⟨rfl, M5, hc6, mr5, hf5⟩ := hq5
      have mf5 := MF.trans mf2 hf5
      refine X_if_eq dX12_readSum_36 (tgt := 43) rfl (fun c7 => ?_) (fun c7 => ?_)
      · refine X_iconst dX12_readSum_43 (by decide) ?_
        refine X_istore_n dX12_readSum_44 (by decide) rfl ?_
        refine X_aload_n dX12_readSum_45 rfl ?_
        refine X_invV (ci := 12) (as := []) (st := []) okX12_next dX12_readSum_46 km_RX12_285 rfl rfl (Nat.le_of_ble_eq_true rfl) rfl rfl mr5.1 (CT.of d 0 0 (hcl n_next_0 rfl [] _ _ _ (hc6.1 c7) mr5) (Nat.le_refl _) (Nat.zero_le _) (Nat.zero_le _) (fun z8 S8 V8 hq8 => ?_))
        obtain ⟨rfl, M8, hc9, mr8, hf8⟩ := hq8
        have mf8 := MF.trans mf5 hf8
        refine X_aload_n dX12_readSum_49 rfl ?_
        refine X_invV (ci := 12) (as := []) (st := []) okX12_readTerm dX12_readSum_50 km_RX12_369 rfl rfl (Nat.le_of_ble_eq_true rfl) rfl rfl mr8.1 (CT.of d 0 0 (hcl n_readTerm_0 rfl [] _ _ _ hc9 mr8) (Nat.le_refl _) (Nat.zero_le _) (Nat.zero_le _) (fun z10 S10 V10 hq10 => ?_))
        obtain ⟨rfl, M10, hc11, mr10, hf10⟩ := hq10
        have mf10 := MF.trans mf8 hf10
        refine X_istore_n dX12_readSum_53 (by decide) rfl ?_
        refine X_aload_n dX12_readSum_54 rfl ?_
        refine X_getfield (ci := 12) (k := 46) (v := vi (M10 0 46)) dX12_readSum_55 rfl (by decide) kf_RX12_275 (congrArg vi (MR.in_ mr10 (k := 46) (by decide) rfl)) mr10.1 ?_
        refine X_if_ne dX12_readSum_58 (tgt := 69) rfl (fun c12 => ?_) (fun c12 => ?_)
        · refine X_goto dX12_readSum_69 (tgt := 5) rfl ?_
          exact X_weak [false, false, true, true] (hrc n_readSum_5 [x1] _ _ (hc11.1 c12) mr10 mf10)
        · refine X_aload_n dX12_readSum_61 rfl ?_
          refine X_iload_n dX12_readSum_62 rfl ?_
          refine X_iload_n dX12_readSum_63 rfl ?_
          refine X_iload_n dX12_readSum_64 rfl ?_
          refine X_invV (ci := 12) (as := [vi 3, vi x1, vi z10]) (st := []) okX12_expression dX12_readSum_65 km_RX12_372 rfl rfl (Nat.le_of_ble_eq_true rfl) rfl rfl mr10.1 (CT.of d 0 0 (hcl n_expression_0 rfl [3, x1, z10] _ _ _ (hc11.2 c12) mr10) (Nat.le_refl _) (Nat.zero_le _) (Nat.zero_le _) (fun z13 S13 V13 hq13 => ?_))
          obtain ⟨rfl, M13, hc14, mr13, hf13⟩ := hq13
          have mf13 := MF.trans mf10 hf13
          refine X_istore_n dX12_readSum_68 (by decide) rfl ?_
          refine X_goto dX12_readSum_69 (tgt := 5) rfl ?_
          exact X_weak [false, false, true, true] (hrc n_readSum_5 [z13] _ _ hc14 mr13 mf13)
      · refine X_iconst dX12_readSum_39 (by decide) ?_
        refine X_goto dX12_readSum_40 (tgt := 44) rfl ?_
        refine X_istore_n dX12_readSum_44 (by decide) rfl ?_
        refine X_aload_n dX12_readSum_45 rfl ?_
        refine X_invV (ci := 12) (as := []) (st := []) okX12_next dX12_readSum_46 km_RX12_285 rfl rfl (Nat.le_of_ble_eq_true rfl) rfl rfl mr5.1 (CT.of d 0 0 (hcl n_next_0 rfl [] _ _ _ (hc6.2 c7) mr5) (Nat.le_refl _) (Nat.zero_le _) (Nat.zero_le _) (fun z15 S15 V15 hq15 => ?_))
        obtain ⟨rfl, M15, hc16, mr15, hf15⟩ := hq15
        have mf15 := MF.trans mf5 hf15
        refine X_aload_n dX12_readSum_49 rfl ?_
        refine X_invV (ci := 12) (as := []) (st := []) okX12_readTerm dX12_readSum_50 km_RX12_369 rfl rfl (Nat.le_of_ble_eq_true rfl) rfl rfl mr15.1 (CT.of d 0 0 (hcl n_readTerm_0 rfl [] _ _ _ hc16 mr15) (Nat.le_refl _) (Nat.zero_le _) (Nat.zero_le _) (fun z17 S17 V17 hq17 => ?_))
        obtain ⟨rfl, M17, hc18, mr17, hf17⟩ := hq17
        have mf17 := MF.trans mf15 hf17
        refine X_istore_n dX12_readSum_53 (by decide) rfl ?_
        refine X_aload_n dX12_readSum_54 rfl ?_
        refine X_getfield (ci := 12) (k := 46) (v := vi (M17 0 46)) dX12_readSum_55 rfl (by decide) kf_RX12_275 (congrArg vi (MR.in_ mr17 (k := 46) (by decide) rfl)) mr17.1 ?_
        refine X_if_ne dX12_readSum_58 (tgt := 69) rfl (fun c19 => ?_) (fun c19 => ?_)
        · refine X_goto dX12_readSum_69 (tgt := 5) rfl ?_
          exact X_weak [false, false, true, true] (hrc n_readSum_5 [x1] _ _ (hc18.1 c19) mr17 mf17)
        · refine X_aload_n dX12_readSum_61 rfl ?_
          refine X_iload_n dX12_readSum_62 rfl ?_
          refine X_iload_n dX12_readSum_63 rfl ?_
          refine X_iload_n dX12_readSum_64 rfl ?_
          refine X_invV (ci := 12) (as := [vi 2, vi x1, vi z17]) (st := []) okX12_expression dX12_readSum_65 km_RX12_372 rfl rfl (Nat.le_of_ble_eq_true rfl) rfl rfl mr17.1 (CT.of d 0 0 (hcl n_expression_0 rfl [2, x1, z17] _ _ _ (hc18.2 c19) mr17) (Nat.le_refl _) (Nat.zero_le _) (Nat.zero_le _) (fun z20 S20 V20 hq20 => ?_))
          obtain ⟨rfl, M20, hc21, mr20, hf20⟩ := hq20
          have mf20 := MF.trans mf17 hf20
          refine X_istore_n dX12_readSum_68 (by decide) rfl ?_
          refine X_goto dX12_readSum_69 (tgt := 5) rfl ?_
          exact X_weak [false, false, true, true] (hrc n_readSum_5 [z20] _ _ hc21 mr20 mf20)
    · refine X_aload_n dX12_readSum_21 rfl ?_
      refine X_bipush dX12_readSum_22 (by decide) (by decide) ?_
      refine X_invV (ci := 12) (as := [vi 45]) (st := []) okX12_isSign dX12_readSum_24 km_RX12_281 rfl rfl (Nat.le_of_ble_eq_true rfl) rfl rfl mr2.1 (CT.of d 0 0 (hcl n_isSign_0 rfl [45] _ _ _ (hc3.2 c4) mr2) (Nat.le_refl _) (Nat.zero_le _) (Nat.zero_le _) (fun z22 S22 V22 hq22 => ?_))
      obtain ⟨rfl, M22, hc23, mr22, hf22⟩ := hq22
      have mf22 := MF.trans mf2 hf22
      refine X_if_eq dX12_readSum_27 (tgt := 72) rfl (fun c24 => ?_) (fun c24 => ?_)
      · refine X_iload_n dX12_readSum_72 rfl ?_
        exact X_ret (z := x1) dX12_readSum_73 rfl (fun hv => vok_h hv) ⟨rfl, _, (hc23.1 c24), mr22, mf22⟩
      · refine X_aload_n dX12_readSum_30 rfl ?_
        refine X_bipush dX12_readSum_31 (by decide) (by decide) ?_
        refine X_invV (ci := 12) (as := [vi 43]) (st := []) okX12_isSign dX12_readSum_33 km_RX12_281 rfl rfl (Nat.le_of_ble_eq_true rfl) rfl rfl mr22.1 (CT.of d 0 0 (hcl n_isSign_0 rfl [43] _ _ _ (hc23.2 c24) mr22) (Nat.le_refl _) (Nat.zero_le _) (Nat.zero_le _) (fun z25 S25 V25 hq25 => ?_))
        obtain ⟨rfl, M25, hc26, mr25, hf25⟩ := hq25
        have mf25 := MF.trans mf22 hf25
        refine X_if_eq dX12_readSum_36 (tgt := 43) rfl (fun c27 => ?_) (fun c27 => ?_)
        · refine X_iconst dX12_readSum_43 (by decide) ?_
          refine X_istore_n dX12_readSum_44 (by decide) rfl ?_
          refine X_aload_n dX12_readSum_45 rfl ?_
          refine X_invV (ci := 12) (as := []) (st := []) okX12_next dX12_readSum_46 km_RX12_285 rfl rfl (Nat.le_of_ble_eq_true rfl) rfl rfl mr25.1 (CT.of d 0 0 (hcl n_next_0 rfl [] _ _ _ (hc26.1 c27) mr25) (Nat.le_refl _) (Nat.zero_le _) (Nat.zero_le _) (fun z28 S28 V28 hq28 => ?_))
          obtain ⟨rfl, M28, hc29, mr28, hf28⟩ := hq28
          have mf28 := MF.trans mf25 hf28
          refine X_aload_n dX12_readSum_49 rfl ?_
          refine X_invV (ci := 12) (as := []) (st := []) okX12_readTerm dX12_readSum_50 km_RX12_369 rfl rfl (Nat.le_of_ble_eq_true rfl) rfl rfl mr28.1 (CT.of d 0 0 (hcl n_readTerm_0 rfl [] _ _ _ hc29 mr28) (Nat.le_refl _) (Nat.zero_le _) (Nat.zero_le _) (fun z30 S30 V30 hq30 => ?_))
          obtain ⟨rfl, M30, hc31, mr30, hf30⟩ := hq30
          have mf30 := MF.trans mf28 hf30
          refine X_istore_n dX12_readSum_53 (by decide) rfl ?_
          refine X_aload_n dX12_readSum_54 rfl ?_
          refine X_getfield (ci := 12) (k := 46) (v := vi (M30 0 46)) dX12_readSum_55 rfl (by decide) kf_RX12_275 (congrArg vi (MR.in_ mr30 (k := 46) (by decide) rfl)) mr30.1 ?_
          refine X_if_ne dX12_readSum_58 (tgt := 69) rfl (fun c32 => ?_) (fun c32 => ?_)
          · refine X_goto dX12_readSum_69 (tgt := 5) rfl ?_
            exact X_weak [false, false, true, true] (hrc n_readSum_5 [x1] _ _ (hc31.1 c32) mr30 mf30)
          · refine X_aload_n dX12_readSum_61 rfl ?_
            refine X_iload_n dX12_readSum_62 rfl ?_
            refine X_iload_n dX12_readSum_63 rfl ?_
            refine X_iload_n dX12_readSum_64 rfl ?_
            refine X_invV (ci := 12) (as := [vi 3, vi x1, vi z30]) (st := []) okX12_expression dX12_readSum_65 km_RX12_372 rfl rfl (Nat.le_of_ble_eq_true rfl) rfl rfl mr30.1 (CT.of d 0 0 (hcl n_expression_0 rfl [3, x1, z30] _ _ _ (hc31.2 c32) mr30) (Nat.le_refl _) (Nat.zero_le _) (Nat.zero_le _) (fun z33 S33 V33 hq33 => ?_))
            obtain ⟨rfl, M33, hc34, mr33, hf33⟩ := hq33
            have mf33 := MF.trans mf30 hf33
            refine X_istore_n dX12_readSum_68 (by decide) rfl ?_
            refine X_goto dX12_readSum_69 (tgt := 5) rfl ?_
            exact X_weak [false, false, true, true] (hrc n_readSum_5 [z33] _ _ hc34 mr33 mf33)
        · refine X_iconst dX12_readSum_39 (by decide) ?_
          refine X_goto dX12_readSum_40 (tgt := 44) rfl ?_
          refine X_istore_n dX12_readSum_44 (by decide) rfl ?_
          refine X_aload_n dX12_readSum_45 rfl ?_
          refine X_invV (ci := 12) (as := []) (st := []) okX12_next dX12_readSum_46 km_RX12_285 rfl rfl (Nat.le_of_ble_eq_true rfl) rfl rfl mr25.1 (CT.of d 0 0 (hcl n_next_0 rfl [] _ _ _ (hc26.2 c27) mr25) (Nat.le_refl _) (Nat.zero_le _) (Nat.zero_le _) (fun z35 S35 V35 hq35 => ?_))
          obtain ⟨rfl, M35, hc36, mr35, hf35⟩ := hq35
          have mf35 := MF.trans mf25 hf35
          refine X_aload_n dX12_readSum_49 rfl ?_
          refine X_invV (ci := 12) (as := []) (st := []) okX12_readTerm dX12_readSum_50 km_RX12_369 rfl rfl (Nat.le_of_ble_eq_true rfl) rfl rfl mr35.1 (CT.of d 0 0 (hcl n_readTerm_0 rfl [] _ _ _ hc36 mr35) (Nat.le_refl _) (Nat.zero_le _) (Nat.zero_le _) (fun z37 S37 V37 hq37 => ?_))
          obtain ⟨rfl, M37, hc38, mr37, hf37⟩ := hq37
          have mf37 := MF.trans mf35 hf37
          refine X_istore_n dX12_readSum_53 (by decide) rfl ?_
          refine X_aload_n dX12_readSum_54 rfl ?_
          refine X_getfield (ci := 12) (k := 46) (v := vi (M37 0 46)) dX12_readSum_55 rfl (by decide) kf_RX12_275 (congrArg vi (MR.in_ mr37 (k := 46) (by decide) rfl)) mr37.1 ?_
          refine X_if_ne dX12_readSum_58 (tgt := 69) rfl (fun c39 => ?_) (fun c39 => ?_)
          · refine X_goto dX12_readSum_69 (tgt := 5) rfl ?_
            exact X_weak [false, false, true, true] (hrc n_readSum_5 [x1] _ _ (hc38.1 c39) mr37 mf37)
          · refine X_aload_n dX12_readSum_61 rfl ?_
            refine X_iload_n dX12_readSum_62 rfl ?_
            refine X_iload_n dX12_readSum_63 rfl ?_
            refine X_iload_n dX12_readSum_64 rfl ?_
            refine X_invV (ci := 12) (as := [vi 2, vi x1, vi z37]) (st := []) okX12_expression dX12_readSum_65 km_RX12_372 rfl rfl (Nat.le_of_ble_eq_true rfl) rfl rfl mr37.1 (CT.of d 0 0 (hcl n_expression_0 rfl [2, x1, z37] _ _ _ (hc38.2 c39) mr37) (Nat.le_refl _) (Nat.zero_le _) (Nat.zero_le _) (fun z40 S40 V40 hq40 => ?_))
            obtain ⟨rfl, M40, hc41, mr40, hf40⟩ := hq40
            have mf40 := MF.trans mf37 hf40
            refine X_istore_n dX12_readSum_68 (by decide) rfl ?_
            refine X_goto dX12_readSum_69 (tgt := 5) rfl ?_
            exact X_weak [false, false, true, true] (hrc n_readSum_5 [z40] _ _ hc41 mr40 mf40)
def B_readTerm_0 (rc : MP) (cl : MC) (Q : Int → Mem → Prop) (d : Nat) (M : Mem) : Prop := cl n_readFactor_0 [] M (fun z1 M1 => rc n_readTerm_5 [z1] M1)
set_option maxRecDepth 10000 in
theorem s_readTerm_0 {l : Launch} {G : GT} {m : Int} {a : Int → Int} {d mc ms : Nat} {S : Sh} {Q : Int → Mem → Prop} {rc : MP} {cl : MC} {V0 V M : Mem} (hrc : RCok l G m a S V0 Q d mc ms rc) (hcl : CLok l G m a S d cl) (mr : MR m a S V M) (mf : MF m a V0 V) (hB : B_readTerm_0 rc cl Q d  M) : XJ l G bX12_readTerm (Qm m a S V0 Q) (d + 1) 0 [vr m, vu, vu, vu] [] S V mc ms := by
  unfold B_readTerm_0 at hB
  refine X_aload_n dX12_readTerm_0 rfl ?_
  refine X_invV (ci := 12) (as := []) (st := []) okX12_readFactor dX12_readTerm_1 km_RX12_376 rfl rfl (Nat.le_of_ble_eq_true rfl) rfl rfl mr.1 (CT.of d 0 0 (hcl n_readFactor_0 rfl [] _ _ _ hB mr) (Nat.le_refl _) (Nat.zero_le _) (Nat.zero_le _) (fun z1 S1 V1 hq1 => ?_))
  obtain ⟨rfl, M1, hc2, mr1, hf1⟩ := hq1
  have mf1 := MF.trans mf hf1
  refine X_istore_n dX12_readTerm_4 (by decide) rfl ?_
  exact hrc n_readTerm_5 [z1] _ _ hc2 mr1 mf1
def B_readTerm_5 (rc : MP) (cl : MC) (Q : Int → Mem → Prop) (d : Nat) (x1 : Int) (M : Mem) : Prop := ((M 0 46) ≠ 0 → Q x1 M) ∧ (¬ ((M 0 46) ≠ 0) → cl n_isSign_0 [42] M (fun z2 M2 => (z2 ≠ 0 → cl n_isSign_0 [42] M2 (fun z5 M5 => (z5 = 0 → cl n_next_0 [] M5 (fun z8 M8 => cl n_readFactor_0 [] M8 (fun z10 M10 => ((M10 0 46) ≠ 0 → rc n_readTerm_5 [x1] M10) ∧ (¬ ((M10 0 46) ≠ 0) → cl n_expression_0 [5, x1, z10] M10 (fun z13 M13 => rc n_readTerm_5 [z13] M13))))) ∧ (¬ (z5 = 0) → cl n_next_0 [] M5 (fun z15 M15 => cl n_readFactor_0 [] M15 (fun z17 M17 => ((M17 0 46) ≠ 0 → rc n_readTerm_5 [x1] M17) ∧ (¬ ((M17 0 46) ≠ 0) → cl n_expression_0 [4, x1, z17] M17 (fun z20 M20 => rc n_readTerm_5 [z20] M20))))))) ∧ (¬ (z2 ≠ 0) → cl n_isSign_0 [47] M2 (fun z22 M22 => (z22 = 0 → Q x1 M22) ∧ (¬ (z22 = 0) → cl n_isSign_0 [42] M22 (fun z25 M25 => (z25 = 0 → cl n_next_0 [] M25 (fun z28 M28 => cl n_readFactor_0 [] M28 (fun z30 M30 => ((M30 0 46) ≠ 0 → rc n_readTerm_5 [x1] M30) ∧ (¬ ((M30 0 46) ≠ 0) → cl n_expression_0 [5, x1, z30] M30 (fun z33 M33 => rc n_readTerm_5 [z33] M33))))) ∧ (¬ (z25 = 0) → cl n_next_0 [] M25 (fun z35 M35 => cl n_readFactor_0 [] M35 (fun z37 M37 => ((M37 0 46) ≠ 0 → rc n_readTerm_5 [x1] M37) ∧ (¬ ((M37 0 46) ≠ 0) → cl n_expression_0 [4, x1, z37] M37 (fun z40 M40 => rc n_readTerm_5 [z40] M40)))))))))))
set_option maxRecDepth 10000 in
theorem s_readTerm_5 {l : Launch} {G : GT} {m : Int} {a : Int → Int} {d mc ms : Nat} {S : Sh} {Q : Int → Mem → Prop} {rc : MP} {cl : MC} {V0 V M : Mem} {x1 : Int} (hrc : RCok l G m a S V0 Q d mc ms rc) (hcl : CLok l G m a S d cl) (mr : MR m a S V M) (mf : MF m a V0 V) (hB : B_readTerm_5 rc cl Q d x1 M) : XJ l G bX12_readTerm (Qm m a S V0 Q) (d + 1) 5 [vr m, vi x1, vu, vu] [] S V mc ms := by
  unfold B_readTerm_5 at hB
  refine X_aload_n dX12_readTerm_5 rfl ?_
  refine X_getfield (ci := 12) (k := 46) (v := vi (M 0 46)) dX12_readTerm_6 rfl (by decide) kf_RX12_275 (congrArg vi (MR.in_ mr (k := 46) (by decide) rfl)) mr.1 ?_
  refine X_if_ne dX12_readTerm_9 (tgt := 72) rfl (fun c1 => ?_) (fun c1 => ?_)
  · refine X_iload_n dX12_readTerm_72 rfl ?_
    exact X_ret (z := x1) dX12_readTerm_73 rfl (fun hv => vok_h hv) ⟨rfl, _, (hB.1 c1), mr, mf⟩
  · refine X_aload_n dX12_readTerm_12 rfl ?_
    refine X_bipush dX12_readTerm_13 (by decide) (by decide) ?_
    refine X_invV (ci := 12) (as := [vi 42]) (st := []) okX12_isSign dX12_readTerm_15 km_RX12_281 rfl rfl (Nat.le_of_ble_eq_true rfl) rfl rfl mr.1 (CT.of d 0 0 (hcl n_isSign_0 rfl [42] _ _ _ (hB.2 c1) mr) (Nat.le_refl _) (Nat.zero_le _) (Nat.zero_le _) (fun z2 S2 V2 hq2 => ?_))
    obtain ⟨rfl, M2, hc3, mr2, hf2⟩ := hq2
    have mf2 := MF.trans mf hf2
    refine X_if_ne dX12_readTerm_18 (tgt := 30) rfl (fun c4 => ?_) (fun c4 => ?_)
    · refine X_aload_n dX12_readTerm_30 rfl ?_
      refine X_bipush dX12_readTerm_31 (by decide) (by decide) ?_
      refine X_invV (ci := 12) (as := [vi 42]) (st := []) okX12_isSign dX12_readTerm_33 km_RX12_281 rfl rfl (Nat.le_of_ble_eq_true rfl) rfl rfl mr2.1 (CT.of d 0 0 (hcl n_isSign_0 rfl [42] _ _ _ (hc3.1 c4) mr2) (Nat.le_refl _) (Nat.zero_le _) (Nat.zero_le _) (fun z5 S5 V5 hq5 => ?_))
      obtain ⟨rfl, M5, hc6, mr5, hf5⟩ := hq5
      have mf5 := MF.trans mf2 hf5
      refine X_if_eq dX12_readTerm_36 (tgt := 43) rfl (fun c7 => ?_) (fun c7 => ?_)
      · refine X_iconst dX12_readTerm_43 (by decide) ?_
        refine X_istore_n dX12_readTerm_44 (by decide) rfl ?_
        refine X_aload_n dX12_readTerm_45 rfl ?_
        refine X_invV (ci := 12) (as := []) (st := []) okX12_next dX12_readTerm_46 km_RX12_285 rfl rfl (Nat.le_of_ble_eq_true rfl) rfl rfl mr5.1 (CT.of d 0 0 (hcl n_next_0 rfl [] _ _ _ (hc6.1 c7) mr5) (Nat.le_refl _) (Nat.zero_le _) (Nat.zero_le _) (fun z8 S8 V8 hq8 => ?_))
        obtain ⟨rfl, M8, hc9, mr8, hf8⟩ := hq8
        have mf8 := MF.trans mf5 hf8
        refine X_aload_n dX12_readTerm_49 rfl ?_
        refine X_invV (ci := 12) (as := []) (st := []) okX12_readFactor dX12_readTerm_50 km_RX12_376 rfl rfl (Nat.le_of_ble_eq_true rfl) rfl rfl mr8.1 (CT.of d 0 0 (hcl n_readFactor_0 rfl [] _ _ _ hc9 mr8) (Nat.le_refl _) (Nat.zero_le _) (Nat.zero_le _) (fun z10 S10 V10 hq10 => ?_))
        obtain ⟨rfl, M10, hc11, mr10, hf10⟩ := hq10
        have mf10 := MF.trans mf8 hf10
        refine X_istore_n dX12_readTerm_53 (by decide) rfl ?_
        refine X_aload_n dX12_readTerm_54 rfl ?_
        refine X_getfield (ci := 12) (k := 46) (v := vi (M10 0 46)) dX12_readTerm_55 rfl (by decide) kf_RX12_275 (congrArg vi (MR.in_ mr10 (k := 46) (by decide) rfl)) mr10.1 ?_
        refine X_if_ne dX12_readTerm_58 (tgt := 69) rfl (fun c12 => ?_) (fun c12 => ?_)
        · refine X_goto dX12_readTerm_69 (tgt := 5) rfl ?_
          exact X_weak [false, false, true, true] (hrc n_readTerm_5 [x1] _ _ (hc11.1 c12) mr10 mf10)
        · refine X_aload_n dX12_readTerm_61 rfl ?_
          refine X_iload_n dX12_readTerm_62 rfl ?_
          refine X_iload_n dX12_readTerm_63 rfl ?_
          refine X_iload_n dX12_readTerm_64 rfl ?_
          refine X_invV (ci := 12) (as := [vi 5, vi x1, vi z10]) (st := []) okX12_expression dX12_readTerm_65 km_RX12_372 rfl rfl (Nat.le_of_ble_eq_true rfl) rfl rfl mr10.1 (CT.of d 0 0 (hcl n_expression_0 rfl [5, x1, z10] _ _ _ (hc11.2 c12) mr10) (Nat.le_refl _) (Nat.zero_le _) (Nat.zero_le _) (fun z13 S13 V13 hq13 => ?_))
          obtain ⟨rfl, M13, hc14, mr13, hf13⟩ := hq13
          have mf13 := MF.trans mf10 hf13
          refine X_istore_n dX12_readTerm_68 (by decide) rfl ?_
          refine X_goto dX12_readTerm_69 (tgt := 5) rfl ?_
          exact X_weak [false, false, true, true] (hrc n_readTerm_5 [z13] _ _ hc14 mr13 mf13)
      · refine X_iconst dX12_readTerm_39 (by decide) ?_
        refine X_goto dX12_readTerm_40 (tgt := 44) rfl ?_
        refine X_istore_n dX12_readTerm_44 (by decide) rfl ?_
        refine X_aload_n dX12_readTerm_45 rfl ?_
        refine X_invV (ci := 12) (as := []) (st := []) okX12_next dX12_readTerm_46 km_RX12_285 rfl rfl (Nat.le_of_ble_eq_true rfl) rfl rfl mr5.1 (CT.of d 0 0 (hcl n_next_0 rfl [] _ _ _ (hc6.2 c7) mr5) (Nat.le_refl _) (Nat.zero_le _) (Nat.zero_le _) (fun z15 S15 V15 hq15 => ?_))
        obtain ⟨rfl, M15, hc16, mr15, hf15⟩ := hq15
        have mf15 := MF.trans mf5 hf15
        refine X_aload_n dX12_readTerm_49 rfl ?_
        refine X_invV (ci := 12) (as := []) (st := []) okX12_readFactor dX12_readTerm_50 km_RX12_376 rfl rfl (Nat.le_of_ble_eq_true rfl) rfl rfl mr15.1 (CT.of d 0 0 (hcl n_readFactor_0 rfl [] _ _ _ hc16 mr15) (Nat.le_refl _) (Nat.zero_le _) (Nat.zero_le _) (fun z17 S17 V17 hq17 => ?_))
        obtain ⟨rfl, M17, hc18, mr17, hf17⟩ := hq17
        have mf17 := MF.trans mf15 hf17
        refine X_istore_n dX12_readTerm_53 (by decide) rfl ?_
        refine X_aload_n dX12_readTerm_54 rfl ?_
        refine X_getfield (ci := 12) (k := 46) (v := vi (M17 0 46)) dX12_readTerm_55 rfl (by decide) kf_RX12_275 (congrArg vi (MR.in_ mr17 (k := 46) (by decide) rfl)) mr17.1 ?_
        refine X_if_ne dX12_readTerm_58 (tgt := 69) rfl (fun c19 => ?_) (fun c19 => ?_)
        · refine X_goto dX12_readTerm_69 (tgt := 5) rfl ?_
          exact X_weak [false, false, true, true] (hrc n_readTerm_5 [x1] _ _ (hc18.1 c19) mr17 mf17)
        · refine X_aload_n dX12_readTerm_61 rfl ?_
          refine X_iload_n dX12_readTerm_62 rfl ?_
          refine X_iload_n dX12_readTerm_63 rfl ?_
          refine X_iload_n dX12_readTerm_64 rfl ?_
          refine X_invV (ci := 12) (as := [vi 4, vi x1, vi z17]) (st := []) okX12_expression dX12_readTerm_65 km_RX12_372 rfl rfl (Nat.le_of_ble_eq_true rfl) rfl rfl mr17.1 (CT.of d 0 0 (hcl n_expression_0 rfl [4, x1, z17] _ _ _ (hc18.2 c19) mr17) (Nat.le_refl _) (Nat.zero_le _) (Nat.zero_le _) (fun z20 S20 V20 hq20 => ?_))
          obtain ⟨rfl, M20, hc21, mr20, hf20⟩ := hq20
          have mf20 := MF.trans mf17 hf20
          refine X_istore_n dX12_readTerm_68 (by decide) rfl ?_
          refine X_goto dX12_readTerm_69 (tgt := 5) rfl ?_
          exact X_weak [false, false, true, true] (hrc n_readTerm_5 [z20] _ _ hc21 mr20 mf20)
    · refine X_aload_n dX12_readTerm_21 rfl ?_
      refine X_bipush dX12_readTerm_22 (by decide) (by decide) ?_
      refine X_invV (ci := 12) (as := [vi 47]) (st := []) okX12_isSign dX12_readTerm_24 km_RX12_281 rfl rfl (Nat.le_of_ble_eq_true rfl) rfl rfl mr2.1 (CT.of d 0 0 (hcl n_isSign_0 rfl [47] _ _ _ (hc3.2 c4) mr2) (Nat.le_refl _) (Nat.zero_le _) (Nat.zero_le _) (fun z22 S22 V22 hq22 => ?_))
      obtain ⟨rfl, M22, hc23, mr22, hf22⟩ := hq22
      have mf22 := MF.trans mf2 hf22
      refine X_if_eq dX12_readTerm_27 (tgt := 72) rfl (fun c24 => ?_) (fun c24 => ?_)
      · refine X_iload_n dX12_readTerm_72 rfl ?_
        exact X_ret (z := x1) dX12_readTerm_73 rfl (fun hv => vok_h hv) ⟨rfl, _, (hc23.1 c24), mr22, mf22⟩
      · refine X_aload_n dX12_readTerm_30 rfl ?_
        refine X_bipush dX12_readTerm_31 (by decide) (by decide) ?_
        refine X_invV (ci := 12) (as := [vi 42]) (st := []) okX12_isSign dX12_readTerm_33 km_RX12_281 rfl rfl (Nat.le_of_ble_eq_true rfl) rfl rfl mr22.1 (CT.of d 0 0 (hcl n_isSign_0 rfl [42] _ _ _ (hc23.2 c24) mr22) (Nat.le_refl _) (Nat.zero_le _) (Nat.zero_le _) (fun z25 S25 V25 hq25 => ?_))
        obtain ⟨rfl, M25, hc26, mr25, hf25⟩ := hq25
        have mf25 := MF.trans mf22 hf25
        refine X_if_eq dX12_readTerm_36 (tgt := 43) rfl (fun c27 => ?_) (fun c27 => ?_)
        · refine X_iconst dX12_readTerm_43 (by decide) ?_
          refine X_istore_n dX12_readTerm_44 (by decide) rfl ?_
          refine X_aload_n dX12_readTerm_45 rfl ?_
          refine X_invV (ci := 12) (as := []) (st := []) okX12_next dX12_readTerm_46 km_RX12_285 rfl rfl (Nat.le_of_ble_eq_true rfl) rfl rfl mr25.1 (CT.of d 0 0 (hcl n_next_0 rfl [] _ _ _ (hc26.1 c27) mr25) (Nat.le_refl _) (Nat.zero_le _) (Nat.zero_le _) (fun z28 S28 V28 hq28 => ?_))
          obtain ⟨rfl, M28, hc29, mr28, hf28⟩ := hq28
          have mf28 := MF.trans mf25 hf28
          refine X_aload_n dX12_readTerm_49 rfl ?_
          refine X_invV (ci := 12) (as := []) (st := []) okX12_readFactor dX12_readTerm_50 km_RX12_376 rfl rfl (Nat.le_of_ble_eq_true rfl) rfl rfl mr28.1 (CT.of d 0 0 (hcl n_readFactor_0 rfl [] _ _ _ hc29 mr28) (Nat.le_refl _) (Nat.zero_le _) (Nat.zero_le _) (fun z30 S30 V30 hq30 => ?_))
          obtain ⟨rfl, M30, hc31, mr30, hf30⟩ := hq30
          have mf30 := MF.trans mf28 hf30
          refine X_istore_n dX12_readTerm_53 (by decide) rfl ?_
          refine X_aload_n dX12_readTerm_54 rfl ?_
          refine X_getfield (ci := 12) (k := 46) (v := vi (M30 0 46)) dX12_readTerm_55 rfl (by decide) kf_RX12_275 (congrArg vi (MR.in_ mr30 (k := 46) (by decide) rfl)) mr30.1 ?_
          refine X_if_ne dX12_readTerm_58 (tgt := 69) rfl (fun c32 => ?_) (fun c32 => ?_)
          · refine X_goto dX12_readTerm_69 (tgt := 5) rfl ?_
            exact X_weak [false, false, true, true] (hrc n_readTerm_5 [x1] _ _ (hc31.1 c32) mr30 mf30)
          · refine X_aload_n dX12_readTerm_61 rfl ?_
            refine X_iload_n dX12_readTerm_62 rfl ?_
            refine X_iload_n dX12_readTerm_63 rfl ?_
            refine X_iload_n dX12_readTerm_64 rfl ?_
            refine X_invV (ci := 12) (as := [vi 5, vi x1, vi z30]) (st := []) okX12_expression dX12_readTerm_65 km_RX12_372 rfl rfl (Nat.le_of_ble_eq_true rfl) rfl rfl mr30.1 (CT.of d 0 0 (hcl n_expression_0 rfl [5, x1, z30] _ _ _ (hc31.2 c32) mr30) (Nat.le_refl _) (Nat.zero_le _) (Nat.zero_le _) (fun z33 S33 V33 hq33 => ?_))
            obtain ⟨rfl, M33, hc34, mr33, hf33⟩ := hq33
            have mf33 := MF.trans mf30 hf33
            refine X_istore_n dX12_readTerm_68 (by decide) rfl ?_
            refine X_goto dX12_readTerm_69 (tgt := 5) rfl ?_
            exact X_weak [false, false, true, true] (hrc n_readTerm_5 [z33] _ _ hc34 mr33 mf33)
        · refine X_iconst dX12_readTerm_39 (by decide) ?_
          refine X_goto dX12_readTerm_40 (tgt := 44) rfl ?_
          refine X_istore_n dX12_readTerm_44 (by decide) rfl ?_
          refine X_aload_n dX12_readTerm_45 rfl ?_
          refine X_invV (ci := 12) (as := []) (st := []) okX12_next dX12_readTerm_46 km_RX12_285 rfl rfl (Nat.le_of_ble_eq_true rfl) rfl rfl mr25.1 (CT.of d 0 0 (hcl n_next_0 rfl [] _ _ _ (hc26.2 c27) mr25) (Nat.le_refl _) (Nat.zero_le _) (Nat.zero_le _) (fun z35 S35 V35 hq35 => ?_))
          obtain ⟨rfl, M35, hc36, mr35, hf35⟩ := hq35
          have mf35 := MF.trans mf25 hf35
          refine X_aload_n dX12_readTerm_49 rfl ?_
          refine X_invV (ci := 12) (as := []) (st := []) okX12_readFactor dX12_readTerm_50 km_RX12_376 rfl rfl (Nat.le_of_ble_eq_true rfl) rfl rfl mr35.1 (CT.of d 0 0 (hcl n_readFactor_0 rfl [] _ _ _ hc36 mr35) (Nat.le_refl _) (Nat.zero_le _) (Nat.zero_le _) (fun z37 S37 V37 hq37 => ?_))
          obtain ⟨rfl, M37, hc38, mr37, hf37⟩ := hq37
          have mf37 := MF.trans mf35 hf37
          refine X_istore_n dX12_readTerm_53 (by decide) rfl ?_
          refine X_aload_n dX12_readTerm_54 rfl ?_
          refine X_getfield (ci := 12) (k := 46) (v := vi (M37 0 46)) dX12_readTerm_55 rfl (by decide) kf_RX12_275 (congrArg vi (MR.in_ mr37 (k := 46) (by decide) rfl)) mr37.1 ?_
          refine X_if_ne dX12_readTerm_58 (tgt := 69) rfl (fun c39 => ?_) (fun c39 => ?_)
          · refine X_goto dX12_readTerm_69 (tgt := 5) rfl ?_
            exact X_weak [false, false, true, true] (hrc n_readTerm_5 [x1] _ _ (hc38.1 c39) mr37 mf37)
          · refine X_aload_n dX12_readTerm_61 rfl ?_
            refine X_iload_n dX12_readTerm_62 rfl ?_
            refine X_iload_n dX12_readTerm_63 rfl ?_
            refine X_iload_n dX12_readTerm_64 rfl ?_
            refine X_invV (ci := 12) (as := [vi 4, vi x1, vi z37]) (st := []) okX12_expression dX12_readTerm_65 km_RX12_372 rfl rfl (Nat.le_of_ble_eq_true rfl) rfl rfl mr37.1 (CT.of d 0 0 (hcl n_expression_0 rfl [4, x1, z37] _ _ _ (hc38.2 c39) mr37) (Nat.le_refl _) (Nat.zero_le _) (Nat.zero_le _) (fun z40 S40 V40 hq40 => ?_))
            obtain ⟨rfl, M40, hc41, mr40, hf40⟩ := hq40
            have mf40 := MF.trans mf37 hf40
            refine X_istore_n dX12_readTerm_68 (by decide) rfl ?_
            refine X_goto dX12_readTerm_69 (tgt := 5) rfl ?_
            exact X_weak [false, false, true, true] (hrc n_readTerm_5 [z40] _ _ hc41 mr40 mf40)
def B_readFactor_0 (rc : MP) (cl : MC) (Q : Int → Mem → Prop) (d : Nat) (M : Mem) : Prop := ((M 0 46) ≤ 0 → cl n_isSign_0 [45] M (fun z2 M2 => (z2 ≠ 0 → cl n_isSign_0 [45] M2 (fun z5 M5 => ((M5 0 42) ≠ 12 → -2147483648 ≤ (M5 0 42) + 1 ∧ (M5 0 42) + 1 ≤ 2147483647 ∧ cl n_next_0 [] (up M5 0 42 ((M5 0 42) + 1)) (fun z8 M8 => (z5 = 0 → cl n_readSum_0 [] M8 (fun z11 M11 => (z5 ≠ 0 → rc n_readFactor_89 [z5, z11] M11) ∧ (¬ (z5 ≠ 0) → cl n_sign_0 [41] M11 (fun z14 M14 => rc n_readFactor_89 [z5, z11] M14)))) ∧ (¬ (z5 = 0) → cl n_readFactor_0 [] M8 (fun z16 M16 => (z5 ≠ 0 → rc n_readFactor_89 [z5, z16] M16) ∧ (¬ (z5 ≠ 0) → cl n_sign_0 [41] M16 (fun z19 M19 => rc n_readFactor_89 [z5, z16] M19)))))) ∧ (¬ ((M5 0 42) ≠ 12) → cl n_fault_0 [5] M5 (fun z21 M21 => Q z21 M21)))) ∧ (¬ (z2 ≠ 0) → cl n_isSign_0 [40] M2 (fun z23 M23 => (z23 = 0 → ((M23 0 3) ≠ 3 → ((M23 0 43) = 0 → ((M23 0 44) = 0 → rc n_readFactor_203 [] M23) ∧ (¬ ((M23 0 44) = 0) → cl n_isWord_0 [13] M23 (fun z29 M29 => (z29 = 0 → rc n_readFactor_203 [] M29) ∧ (¬ (z29 = 0) → cl n_expression_0 [7, 0, 0] M29 (fun z32 M32 => cl n_taken_0 [z32] M32 (fun z34 M34 => Q z34 M34)))))) ∧ (¬ ((M23 0 43) = 0) → cl n_isWord_0 [12] M23 (fun z36 M36 => (z36 = 0 → ((M36 0 44) = 0 → rc n_readFactor_203 [] M36) ∧ (¬ ((M36 0 44) = 0) → cl n_isWord_0 [13] M36 (fun z40 M40 => (z40 = 0 → rc n_readFactor_203 [] M40) ∧ (¬ (z40 = 0) → cl n_expression_0 [7, 0, 0] M40 (fun z43 M43 => cl n_taken_0 [z43] M43 (fun z45 M45 => Q z45 M45)))))) ∧ (¬ (z36 = 0) → cl n_expression_0 [6, 0, 0] M36 (fun z47 M47 => cl n_taken_0 [z47] M47 (fun z49 M49 => Q z49 M49)))))) ∧ (¬ ((M23 0 3) ≠ 3) → cl n_expression_0 [0, M23 0 6, 0] M23 (fun z51 M51 => cl n_taken_0 [z51] M51 (fun z53 M53 => Q z53 M53)))) ∧ (¬ (z23 = 0) → cl n_isSign_0 [45] M23 (fun z55 M55 => ((M55 0 42) ≠ 12 → -2147483648 ≤ (M55 0 42) + 1 ∧ (M55 0 42) + 1 ≤ 2147483647 ∧ cl n_next_0 [] (up M55 0 42 ((M55 0 42) + 1)) (fun z58 M58 => (z55 = 0 → cl n_readSum_0 [] M58 (fun z61 M61 => (z55 ≠ 0 → rc n_readFactor_89 [z55, z61] M61) ∧ (¬ (z55 ≠ 0) → cl n_sign_0 [41] M61 (fun z64 M64 => rc n_readFactor_89 [z55, z61] M64)))) ∧ (¬ (z55 = 0) → cl n_readFactor_0 [] M58 (fun z66 M66 => (z55 ≠ 0 → rc n_readFactor_89 [z55, z66] M66) ∧ (¬ (z55 ≠ 0) → cl n_sign_0 [41] M66 (fun z69 M69 => rc n_readFactor_89 [z55, z66] M69)))))) ∧ (¬ ((M55 0 42) ≠ 12) → cl n_fault_0 [5] M55 (fun z71 M71 => Q z71 M71)))))))) ∧ (¬ ((M 0 46) ≤ 0) → Q (-1) M)
set_option maxRecDepth 10000 in
theorem s_readFactor_0 {l : Launch} {G : GT} {m : Int} {a : Int → Int} {d mc ms : Nat} {S : Sh} {Q : Int → Mem → Prop} {rc : MP} {cl : MC} {V0 V M : Mem} (hrc : RCok l G m a S V0 Q d mc ms rc) (hcl : CLok l G m a S d cl) (mr : MR m a S V M) (mf : MF m a V0 V) (hB : B_readFactor_0 rc cl Q d  M) : XJ l G bX12_readFactor (Qm m a S V0 Q) (d + 1) 0 [vr m, vu, vu] [] S V mc ms := by
  unfold B_readFactor_0 at hB
  refine X_aload_n dX12_readFactor_0 rfl ?_
  refine X_getfield (ci := 12) (k := 46) (v := vi (M 0 46)) dX12_readFactor_1 rfl (by decide) kf_RX12_275 (congrArg vi (MR.in_ mr (k := 46) (by decide) rfl)) mr.1 ?_
  refine X_if_le dX12_readFactor_4 (tgt := 9) rfl (fun c1 => ?_) (fun c1 => ?_)
  · refine X_aload_n dX12_readFactor_9 rfl ?_
    refine X_bipush dX12_readFactor_10 (by decide) (by decide) ?_
    refine X_invV (ci := 12) (as := [vi 45]) (st := []) okX12_isSign dX12_readFactor_12 km_RX12_281 rfl rfl (Nat.le_of_ble_eq_true rfl) rfl rfl mr.1 (CT.of d 0 0 (hcl n_isSign_0 rfl [45] _ _ _ (hB.1 c1) mr) (Nat.le_refl _) (Nat.zero_le _) (Nat.zero_le _) (fun z2 S2 V2 hq2 => ?_))
    obtain ⟨rfl, M2, hc3, mr2, hf2⟩ := hq2
    have mf2 := MF.trans mf hf2
    refine X_if_ne dX12_readFactor_15 (tgt := 27) rfl (fun c4 => ?_) (fun c4 => ?_)
    · refine X_aload_n dX12_readFactor_27 rfl ?_
      refine X_bipush dX12_readFactor_28 (by decide) (by decide) ?_
      refine X_invV (ci := 12) (as := [vi 45]) (st := []) okX12_isSign dX12_readFactor_30 km_RX12_281 rfl rfl (Nat.le_of_ble_eq_true rfl) rfl rfl mr2.1 (CT.of d 0 0 (hcl n_isSign_0 rfl [45] _ _ _ (hc3.1 c4) mr2) (Nat.le_refl _) (Nat.zero_le _) (Nat.zero_le _) (fun z5 S5 V5 hq5 => ?_))
      obtain ⟨rfl, M5, hc6, mr5, hf5⟩ := hq5
      have mf5 := MF.trans mf2 hf5
      refine X_istore_n dX12_readFactor_33 (by decide) rfl ?_
      refine X_aload_n dX12_readFactor_34 rfl ?_
      refine X_getfield (ci := 12) (k := 42) (v := vi (M5 0 42)) dX12_readFactor_35 rfl (by decide) kf_RX12_363 (congrArg vi (MR.in_ mr5 (k := 42) (by decide) rfl)) mr5.1 ?_
      refine X_bipush dX12_readFactor_38 (by decide) (by decide) ?_
      refine X_icmp_ne dX12_readFactor_40 (tgt := 49) rfl (fun c7 => ?_) (fun c7 => ?_)
      · refine X_aload_n dX12_readFactor_49 rfl ?_
        refine X_dup dX12_readFactor_50 (rv_cat _) ?_
        refine X_getfield (ci := 12) (k := 42) (v := vi (M5 0 42)) dX12_readFactor_51 rfl (by decide) kf_RX12_363 (congrArg vi (MR.in_ mr5 (k := 42) (by decide) rfl)) mr5.1 ?_
        refine X_iconst dX12_readFactor_54 (by decide) ?_
        refine X_iaddN dX12_readFactor_55 (hc6.1 c7).1 (hc6.1 c7).2.1 ?_
        refine X_putfield (ci := 12) (k := 42) (z := ((M5 0 42) + 1)) dX12_readFactor_56 rfl (by decide) kf_RX12_363 (Or.inl rfl) (Or.inl rfl) rfl (fun hv => hv) mr5.1 ?_
        refine X_aload_n dX12_readFactor_59 rfl ?_
        refine X_invV (ci := 12) (as := []) (st := []) okX12_next dX12_readFactor_60 km_RX12_285 rfl rfl (Nat.le_of_ble_eq_true rfl) rfl rfl (MR.putI mr5 (k := 42) (z := (M5 0 42) + 1) (by decide)).1 (CT.of d 0 0 (hcl n_next_0 rfl [] _ _ _ (hc6.1 c7).2.2 (MR.putI mr5 (k := 42) (z := (M5 0 42) + 1) (by decide))) (Nat.le_refl _) (Nat.zero_le _) (Nat.zero_le _) (fun z8 S8 V8 hq8 => ?_))
        obtain ⟨rfl, M8, hc9, mr8, hf8⟩ := hq8
        have mf8 := MF.trans (MF.putI mf5 (k := 42) (z := (M5 0 42) + 1)) hf8
        refine X_iload_n dX12_readFactor_63 rfl ?_
        refine X_if_eq dX12_readFactor_64 (tgt := 74) rfl (fun c10 => ?_) (fun c10 => ?_)
        · refine X_aload_n dX12_readFactor_74 rfl ?_
          refine X_invV (ci := 12) (as := []) (st := []) okX12_readSum dX12_readFactor_75 km_RX12_366 rfl rfl (Nat.le_of_ble_eq_true rfl) rfl rfl mr8.1 (CT.of d 0 0 (hcl n_readSum_0 rfl [] _ _ _ (hc9.1 c10) mr8) (Nat.le_refl _) (Nat.zero_le _) (Nat.zero_le _) (fun z11 S11 V11 hq11 => ?_))
          obtain ⟨rfl, M11, hc12, mr11, hf11⟩ := hq11
          have mf11 := MF.trans mf8 hf11
          refine X_istore_n dX12_readFactor_78 (by decide) rfl ?_
          refine X_iload_n dX12_readFactor_79 rfl ?_
          refine X_if_ne dX12_readFactor_80 (tgt := 89) rfl (fun c13 => ?_) (fun c13 => ?_)
          · exact hrc n_readFactor_89 [z5, z11] _ _ (hc12.1 c13) mr11 mf11
          · refine X_aload_n dX12_readFactor_83 rfl ?_
            refine X_bipush dX12_readFactor_84 (by decide) (by decide) ?_
            refine X_invV (ci := 12) (as := [vi 41]) (st := []) okX12_sign dX12_readFactor_86 km_RX12_318 rfl rfl (Nat.le_of_ble_eq_true rfl) rfl rfl mr11.1 (CT.of d 0 0 (hcl n_sign_0 rfl [41] _ _ _ (hc12.2 c13) mr11) (Nat.le_refl _) (Nat.zero_le _) (Nat.zero_le _) (fun z14 S14 V14 hq14 => ?_))
            obtain ⟨rfl, M14, hc15, mr14, hf14⟩ := hq14
            have mf14 := MF.trans mf11 hf14
            exact hrc n_readFactor_89 [z5, z11] _ _ hc15 mr14 mf14
        · refine X_aload_n dX12_readFactor_67 rfl ?_
          refine X_invV (ci := 12) (as := []) (st := []) okX12_readFactor dX12_readFactor_68 km_RX12_376 rfl rfl (Nat.le_of_ble_eq_true rfl) rfl rfl mr8.1 (CT.of d 0 0 (hcl n_readFactor_0 rfl [] _ _ _ (hc9.2 c10) mr8) (Nat.le_refl _) (Nat.zero_le _) (Nat.zero_le _) (fun z16 S16 V16 hq16 => ?_))
          obtain ⟨rfl, M16, hc17, mr16, hf16⟩ := hq16
          have mf16 := MF.trans mf8 hf16
          refine X_goto dX12_readFactor_71 (tgt := 78) rfl ?_
          refine X_istore_n dX12_readFactor_78 (by decide) rfl ?_
          refine X_iload_n dX12_readFactor_79 rfl ?_
          refine X_if_ne dX12_readFactor_80 (tgt := 89) rfl (fun c18 => ?_) (fun c18 => ?_)
          · exact hrc n_readFactor_89 [z5, z16] _ _ (hc17.1 c18) mr16 mf16
          · refine X_aload_n dX12_readFactor_83 rfl ?_
            refine X_bipush dX12_readFactor_84 (by decide) (by decide) ?_
            refine X_invV (ci := 12) (as := [vi 41]) (st := []) okX12_sign dX12_readFactor_86 km_RX12_318 rfl rfl (Nat.le_of_ble_eq_true rfl) rfl rfl mr16.1 (CT.of d 0 0 (hcl n_sign_0 rfl [41] _ _ _ (hc17.2 c18) mr16) (Nat.le_refl _) (Nat.zero_le _) (Nat.zero_le _) (fun z19 S19 V19 hq19 => ?_))
            obtain ⟨rfl, M19, hc20, mr19, hf19⟩ := hq19
            have mf19 := MF.trans mf16 hf19
            exact hrc n_readFactor_89 [z5, z16] _ _ hc20 mr19 mf19
      · refine X_aload_n dX12_readFactor_43 rfl ?_
        refine X_iconst dX12_readFactor_44 (by decide) ?_
        refine X_invV (ci := 12) (as := [vi 5]) (st := []) okX12_fault dX12_readFactor_45 km_RX12_288 rfl rfl (Nat.le_of_ble_eq_true rfl) rfl rfl mr5.1 (CT.of d 0 0 (hcl n_fault_0 rfl [5] _ _ _ (hc6.2 c7) mr5) (Nat.le_refl _) (Nat.zero_le _) (Nat.zero_le _) (fun z21 S21 V21 hq21 => ?_))
        obtain ⟨rfl, M21, hc22, mr21, hf21⟩ := hq21
        have mf21 := MF.trans mf5 hf21
        exact X_ret (z := z21) dX12_readFactor_48 rfl (fun hv => vok_h hv) ⟨rfl, _, hc22, mr21, mf21⟩
    · refine X_aload_n dX12_readFactor_18 rfl ?_
      refine X_bipush dX12_readFactor_19 (by decide) (by decide) ?_
      refine X_invV (ci := 12) (as := [vi 40]) (st := []) okX12_isSign dX12_readFactor_21 km_RX12_281 rfl rfl (Nat.le_of_ble_eq_true rfl) rfl rfl mr2.1 (CT.of d 0 0 (hcl n_isSign_0 rfl [40] _ _ _ (hc3.2 c4) mr2) (Nat.le_refl _) (Nat.zero_le _) (Nat.zero_le _) (fun z23 S23 V23 hq23 => ?_))
      obtain ⟨rfl, M23, hc24, mr23, hf23⟩ := hq23
      have mf23 := MF.trans mf2 hf23
      refine X_if_eq dX12_readFactor_24 (tgt := 122) rfl (fun c25 => ?_) (fun c25 => ?_)
      · refine X_aload_n dX12_readFactor_122 rfl ?_
        refine X_getfield (ci := 12) (k := 3) (v := vi (M23 0 3)) dX12_readFactor_123 rfl (by decide) kf_RX12_205 (congrArg vi (MR.in_ mr23 (k := 3) (by decide) rfl)) mr23.1 ?_
        refine X_iconst dX12_readFactor_126 (by decide) ?_
        refine X_icmp_ne dX12_readFactor_127 (tgt := 145) rfl (fun c26 => ?_) (fun c26 => ?_)
        · refine X_aload_n dX12_readFactor_145 rfl ?_
          refine X_getfield (ci := 12) (k := 43) (v := vi (M23 0 43)) dX12_readFactor_146 rfl (by decide) kf_RX12_353 (congrArg vi (MR.in_ mr23 (k := 43) (by decide) rfl)) mr23.1 ?_
          refine X_if_eq dX12_readFactor_149 (tgt := 174) rfl (fun c27 => ?_) (fun c27 => ?_)
          · refine X_aload_n dX12_readFactor_174 rfl ?_
            refine X_getfield (ci := 12) (k := 44) (v := vi (M23 0 44)) dX12_readFactor_175 rfl (by decide) kf_RX12_357 (congrArg vi (MR.in_ mr23 (k := 44) (by decide) rfl)) mr23.1 ?_
            refine X_if_eq dX12_readFactor_178 (tgt := 203) rfl (fun c28 => ?_) (fun c28 => ?_)
            · exact hrc n_readFactor_203 [] _ _ ((((hc24.1 c25).1 c26).1 c27).1 c28) mr23 mf23
            · refine X_aload_n dX12_readFactor_181 rfl ?_
              refine X_ldcS (i := 13) dX12_readFactor_182 (by decide) ⟨rfl, rfl⟩ ?_
              refine X_invV (ci := 12) (as := [vr ((G.2.2.2.1 13 : Int) + 1)]) (st := []) okX12_isWord dX12_readFactor_184 km_RX12_235 rfl rfl (Nat.le_of_ble_eq_true rfl) rfl rfl mr23.1 (CT.of d 0 0 (hcl n_isWord_0 rfl [13] _ _ _ ((((hc24.1 c25).1 c26).1 c27).2 c28) mr23) (Nat.le_refl _) (Nat.zero_le _) (Nat.zero_le _) (fun z29 S29 V29 hq29 => ?_))
              obtain ⟨rfl, M29, hc30, mr29, hf29⟩ := hq29
              have mf29 := MF.trans mf23 hf29
              refine X_if_eq dX12_readFactor_187 (tgt := 203) rfl (fun c31 => ?_) (fun c31 => ?_)
              · exact hrc n_readFactor_203 [] _ _ (hc30.1 c31) mr29 mf29
              · refine X_aload_n dX12_readFactor_190 rfl ?_
                refine X_aload_n dX12_readFactor_191 rfl ?_
                refine X_bipush dX12_readFactor_192 (by decide) (by decide) ?_
                refine X_iconst dX12_readFactor_194 (by decide) ?_
                refine X_iconst dX12_readFactor_195 (by decide) ?_
                refine X_invV (ci := 12) (as := [vi 7, vi 0, vi 0]) (st := [vr m]) okX12_expression dX12_readFactor_196 km_RX12_372 rfl rfl (Nat.le_of_ble_eq_true rfl) rfl rfl mr29.1 (CT.of d 0 0 (hcl n_expression_0 rfl [7, 0, 0] _ _ _ (hc30.2 c31) mr29) (Nat.le_refl _) (Nat.zero_le _) (Nat.zero_le _) (fun z32 S32 V32 hq32 => ?_))
                obtain ⟨rfl, M32, hc33, mr32, hf32⟩ := hq32
                have mf32 := MF.trans mf29 hf32
                refine X_invV (ci := 12) (as := [vi z32]) (st := []) okX12_taken dX12_readFactor_199 km_RX12_379 rfl rfl (Nat.le_of_ble_eq_true rfl) rfl rfl mr32.1 (CT.of d 0 0 (hcl n_taken_0 rfl [z32] _ _ _ hc33 mr32) (Nat.le_refl _) (Nat.zero_le _) (Nat.zero_le _) (fun z34 S34 V34 hq34 => ?_))
                obtain ⟨rfl, M34, hc35, mr34, hf34⟩ := hq34
                have mf34 := MF.trans mf32 hf34
                exact X_ret (z := z34) dX12_readFactor_202 rfl (fun hv => vok_h hv) ⟨rfl, _, hc35, mr34, mf34⟩
          · refine X_aload_n dX12_readFactor_152 rfl ?_
            refine X_ldcS (i := 12) dX12_readFactor_153 (by decide) ⟨rfl, rfl⟩ ?_
            refine X_invV (ci := 12) (as := [vr ((G.2.2.2.1 12 : Int) + 1)]) (st := []) okX12_isWord dX12_readFactor_155 km_RX12_235 rfl rfl (Nat.le_of_ble_eq_true rfl) rfl rfl mr23.1 (CT.of d 0 0 (hcl n_isWord_0 rfl [12] _ _ _ (((hc24.1 c25).1 c26).2 c27) mr23) (Nat.le_refl _) (Nat.zero_le _) (Nat.zero_le _) (fun z36 S36 V36 hq36 => ?_))
            obtain ⟨rfl, M36, hc37, mr36, hf36⟩ := hq36
            have mf36 := MF.trans mf23 hf36
            refine X_if_eq dX12_readFactor_158 (tgt := 174) rfl (fun c38 => ?_) (fun c38 => ?_)
            · refine X_aload_n dX12_readFactor_174 rfl ?_
              refine X_getfield (ci := 12) (k := 44) (v := vi (M36 0 44)) dX12_readFactor_175 rfl (by decide) kf_RX12_357 (congrArg vi (MR.in_ mr36 (k := 44) (by decide) rfl)) mr36.1 ?_
              refine X_if_eq dX12_readFactor_178 (tgt := 203) rfl (fun c39 => ?_) (fun c39 => ?_)
              · exact hrc n_readFactor_203 [] _ _ ((hc37.1 c38).1 c39) mr36 mf36
              · refine X_aload_n dX12_readFactor_181 rfl ?_
                refine X_ldcS (i := 13) dX12_readFactor_182 (by decide) ⟨rfl, rfl⟩ ?_
                refine X_invV (ci := 12) (as := [vr ((G.2.2.2.1 13 : Int) + 1)]) (st := []) okX12_isWord dX12_readFactor_184 km_RX12_235 rfl rfl (Nat.le_of_ble_eq_true rfl) rfl rfl mr36.1 (CT.of d 0 0 (hcl n_isWord_0 rfl [13] _ _ _ ((hc37.1 c38).2 c39) mr36) (Nat.le_refl _) (Nat.zero_le _) (Nat.zero_le _) (fun z40 S40 V40 hq40 => ?_))
                obtain ⟨rfl, M40, hc41, mr40, hf40⟩ := hq40
                have mf40 := MF.trans mf36 hf40
                refine X_if_eq dX12_readFactor_187 (tgt := 203) rfl (fun c42 => ?_) (fun c42 => ?_)
                · exact hrc n_readFactor_203 [] _ _ (hc41.1 c42) mr40 mf40
                · refine X_aload_n dX12_readFactor_190 rfl ?_
                  refine X_aload_n dX12_readFactor_191 rfl ?_
                  refine X_bipush dX12_readFactor_192 (by decide) (by decide) ?_
                  refine X_iconst dX12_readFactor_194 (by decide) ?_
                  refine X_iconst dX12_readFactor_195 (by decide) ?_
                  refine X_invV (ci := 12) (as := [vi 7, vi 0, vi 0]) (st := [vr m]) okX12_expression dX12_readFactor_196 km_RX12_372 rfl rfl (Nat.le_of_ble_eq_true rfl) rfl rfl mr40.1 (CT.of d 0 0 (hcl n_expression_0 rfl [7, 0, 0] _ _ _ (hc41.2 c42) mr40) (Nat.le_refl _) (Nat.zero_le _) (Nat.zero_le _) (fun z43 S43 V43 hq43 => ?_))
                  obtain ⟨rfl, M43, hc44, mr43, hf43⟩ := hq43
                  have mf43 := MF.trans mf40 hf43
                  refine X_invV (ci := 12) (as := [vi z43]) (st := []) okX12_taken dX12_readFactor_199 km_RX12_379 rfl rfl (Nat.le_of_ble_eq_true rfl) rfl rfl mr43.1 (CT.of d 0 0 (hcl n_taken_0 rfl [z43] _ _ _ hc44 mr43) (Nat.le_refl _) (Nat.zero_le _) (Nat.zero_le _) (fun z45 S45 V45 hq45 => ?_))
                  obtain ⟨rfl, M45, hc46, mr45, hf45⟩ := hq45
                  have mf45 := MF.trans mf43 hf45
                  exact X_ret (z := z45) dX12_readFactor_202 rfl (fun hv => vok_h hv) ⟨rfl, _, hc46, mr45, mf45⟩
            · refine X_aload_n dX12_readFactor_161 rfl ?_
              refine X_aload_n dX12_readFactor_162 rfl ?_
              refine X_bipush dX12_readFactor_163 (by decide) (by decide) ?_
              refine X_iconst dX12_readFactor_165 (by decide) ?_
              refine X_iconst dX12_readFactor_166 (by decide) ?_
              refine X_invV (ci := 12) (as := [vi 6, vi 0, vi 0]) (st := [vr m]) okX12_expression dX12_readFactor_167 km_RX12_372 rfl rfl (Nat.le_of_ble_eq_true rfl) rfl rfl mr36.1 (CT.of d 0 0 (hcl n_expression_0 rfl [6, 0, 0] _ _ _ (hc37.2 c38) mr36) (Nat.le_refl _) (Nat.zero_le _) (Nat.zero_le _) (fun z47 S47 V47 hq47 => ?_))
              obtain ⟨rfl, M47, hc48, mr47, hf47⟩ := hq47
              have mf47 := MF.trans mf36 hf47
              refine X_invV (ci := 12) (as := [vi z47]) (st := []) okX12_taken dX12_readFactor_170 km_RX12_379 rfl rfl (Nat.le_of_ble_eq_true rfl) rfl rfl mr47.1 (CT.of d 0 0 (hcl n_taken_0 rfl [z47] _ _ _ hc48 mr47) (Nat.le_refl _) (Nat.zero_le _) (Nat.zero_le _) (fun z49 S49 V49 hq49 => ?_))
              obtain ⟨rfl, M49, hc50, mr49, hf49⟩ := hq49
              have mf49 := MF.trans mf47 hf49
              exact X_ret (z := z49) dX12_readFactor_173 rfl (fun hv => vok_h hv) ⟨rfl, _, hc50, mr49, mf49⟩
        · refine X_aload_n dX12_readFactor_130 rfl ?_
          refine X_aload_n dX12_readFactor_131 rfl ?_
          refine X_iconst dX12_readFactor_132 (by decide) ?_
          refine X_aload_n dX12_readFactor_133 rfl ?_
          refine X_getfield (ci := 12) (k := 6) (v := vi (M23 0 6)) dX12_readFactor_134 rfl (by decide) kf_RX12_215 (congrArg vi (MR.in_ mr23 (k := 6) (by decide) rfl)) mr23.1 ?_
          refine X_iconst dX12_readFactor_137 (by decide) ?_
          refine X_invV (ci := 12) (as := [vi 0, vi (M23 0 6), vi 0]) (st := [vr m]) okX12_expression dX12_readFactor_138 km_RX12_372 rfl rfl (Nat.le_of_ble_eq_true rfl) rfl rfl mr23.1 (CT.of d 0 0 (hcl n_expression_0 rfl [0, M23 0 6, 0] _ _ _ ((hc24.1 c25).2 c26) mr23) (Nat.le_refl _) (Nat.zero_le _) (Nat.zero_le _) (fun z51 S51 V51 hq51 => ?_))
          obtain ⟨rfl, M51, hc52, mr51, hf51⟩ := hq51
          have mf51 := MF.trans mf23 hf51
          refine X_invV (ci := 12) (as := [vi z51]) (st := []) okX12_taken dX12_readFactor_141 km_RX12_379 rfl rfl (Nat.le_of_ble_eq_true rfl) rfl rfl mr51.1 (CT.of d 0 0 (hcl n_taken_0 rfl [z51] _ _ _ hc52 mr51) (Nat.le_refl _) (Nat.zero_le _) (Nat.zero_le _) (fun z53 S53 V53 hq53 => ?_))
          obtain ⟨rfl, M53, hc54, mr53, hf53⟩ := hq53
          have mf53 := MF.trans mf51 hf53
          exact X_ret (z := z53) dX12_readFactor_144 rfl (fun hv => vok_h hv) ⟨rfl, _, hc54, mr53, mf53⟩
      · refine X_aload_n dX12_readFactor_27 rfl ?_
        refine X_bipush dX12_readFactor_28 (by decide) (by decide) ?_
        refine X_invV (ci := 12) (as := [vi 45]) (st := []) okX12_isSign dX12_readFactor_30 km_RX12_281 rfl rfl (Nat.le_of_ble_eq_true rfl) rfl rfl mr23.1 (CT.of d 0 0 (hcl n_isSign_0 rfl [45] _ _ _ (hc24.2 c25) mr23) (Nat.le_refl _) (Nat.zero_le _) (Nat.zero_le _) (fun z55 S55 V55 hq55 => ?_))
        obtain ⟨rfl, M55, hc56, mr55, hf55⟩ := hq55
        have mf55 := MF.trans mf23 hf55
        refine X_istore_n dX12_readFactor_33 (by decide) rfl ?_
        refine X_aload_n dX12_readFactor_34 rfl ?_
        refine X_getfield (ci := 12) (k := 42) (v := vi (M55 0 42)) dX12_readFactor_35 rfl (by decide) kf_RX12_363 (congrArg vi (MR.in_ mr55 (k := 42) (by decide) rfl)) mr55.1 ?_
        refine X_bipush dX12_readFactor_38 (by decide) (by decide) ?_
        refine X_icmp_ne dX12_readFactor_40 (tgt := 49) rfl (fun c57 => ?_) (fun c57 => ?_)
        · refine X_aload_n dX12_readFactor_49 rfl ?_
          refine X_dup dX12_readFactor_50 (rv_cat _) ?_
          refine X_getfield (ci := 12) (k := 42) (v := vi (M55 0 42)) dX12_readFactor_51 rfl (by decide) kf_RX12_363 (congrArg vi (MR.in_ mr55 (k := 42) (by decide) rfl)) mr55.1 ?_
          refine X_iconst dX12_readFactor_54 (by decide) ?_
          refine X_iaddN dX12_readFactor_55 (hc56.1 c57).1 (hc56.1 c57).2.1 ?_
          refine X_putfield (ci := 12) (k := 42) (z := ((M55 0 42) + 1)) dX12_readFactor_56 rfl (by decide) kf_RX12_363 (Or.inl rfl) (Or.inl rfl) rfl (fun hv => hv) mr55.1 ?_
          refine X_aload_n dX12_readFactor_59 rfl ?_
          refine X_invV (ci := 12) (as := []) (st := []) okX12_next dX12_readFactor_60 km_RX12_285 rfl rfl (Nat.le_of_ble_eq_true rfl) rfl rfl (MR.putI mr55 (k := 42) (z := (M55 0 42) + 1) (by decide)).1 (CT.of d 0 0 (hcl n_next_0 rfl [] _ _ _ (hc56.1 c57).2.2 (MR.putI mr55 (k := 42) (z := (M55 0 42) + 1) (by decide))) (Nat.le_refl _) (Nat.zero_le _) (Nat.zero_le _) (fun z58 S58 V58 hq58 => ?_))
          obtain ⟨rfl, M58, hc59, mr58, hf58⟩ := hq58
          have mf58 := MF.trans (MF.putI mf55 (k := 42) (z := (M55 0 42) + 1)) hf58
          refine X_iload_n dX12_readFactor_63 rfl ?_
          refine X_if_eq dX12_readFactor_64 (tgt := 74) rfl (fun c60 => ?_) (fun c60 => ?_)
          · refine X_aload_n dX12_readFactor_74 rfl ?_
            refine X_invV (ci := 12) (as := []) (st := []) okX12_readSum dX12_readFactor_75 km_RX12_366 rfl rfl (Nat.le_of_ble_eq_true rfl) rfl rfl mr58.1 (CT.of d 0 0 (hcl n_readSum_0 rfl [] _ _ _ (hc59.1 c60) mr58) (Nat.le_refl _) (Nat.zero_le _) (Nat.zero_le _) (fun z61 S61 V61 hq61 => ?_))
            obtain ⟨rfl, M61, hc62, mr61, hf61⟩ := hq61
            have mf61 := MF.trans mf58 hf61
            refine X_istore_n dX12_readFactor_78 (by decide) rfl ?_
            refine X_iload_n dX12_readFactor_79 rfl ?_
            refine X_if_ne dX12_readFactor_80 (tgt := 89) rfl (fun c63 => ?_) (fun c63 => ?_)
            · exact hrc n_readFactor_89 [z55, z61] _ _ (hc62.1 c63) mr61 mf61
            · refine X_aload_n dX12_readFactor_83 rfl ?_
              refine X_bipush dX12_readFactor_84 (by decide) (by decide) ?_
              refine X_invV (ci := 12) (as := [vi 41]) (st := []) okX12_sign dX12_readFactor_86 km_RX12_318 rfl rfl (Nat.le_of_ble_eq_true rfl) rfl rfl mr61.1 (CT.of d 0 0 (hcl n_sign_0 rfl [41] _ _ _ (hc62.2 c63) mr61) (Nat.le_refl _) (Nat.zero_le _) (Nat.zero_le _) (fun z64 S64 V64 hq64 => ?_))
              obtain ⟨rfl, M64, hc65, mr64, hf64⟩ := hq64
              have mf64 := MF.trans mf61 hf64
              exact hrc n_readFactor_89 [z55, z61] _ _ hc65 mr64 mf64
          · refine X_aload_n dX12_readFactor_67 rfl ?_
            refine X_invV (ci := 12) (as := []) (st := []) okX12_readFactor dX12_readFactor_68 km_RX12_376 rfl rfl (Nat.le_of_ble_eq_true rfl) rfl rfl mr58.1 (CT.of d 0 0 (hcl n_readFactor_0 rfl [] _ _ _ (hc59.2 c60) mr58) (Nat.le_refl _) (Nat.zero_le _) (Nat.zero_le _) (fun z66 S66 V66 hq66 => ?_))
            obtain ⟨rfl, M66, hc67, mr66, hf66⟩ := hq66
            have mf66 := MF.trans mf58 hf66
            refine X_goto dX12_readFactor_71 (tgt := 78) rfl ?_
            refine X_istore_n dX12_readFactor_78 (by decide) rfl ?_
            refine X_iload_n dX12_readFactor_79 rfl ?_
            refine X_if_ne dX12_readFactor_80 (tgt := 89) rfl (fun c68 => ?_) (fun c68 => ?_)
            · exact hrc n_readFactor_89 [z55, z66] _ _ (hc67.1 c68) mr66 mf66
            · refine X_aload_n dX12_readFactor_83 rfl ?_
              refine X_bipush dX12_readFactor_84 (by decide) (by decide) ?_
              refine X_invV (ci := 12) (as := [vi 41]) (st := []) okX12_sign dX12_readFactor_86 km_RX12_318 rfl rfl (Nat.le_of_ble_eq_true rfl) rfl rfl mr66.1 (CT.of d 0 0 (hcl n_sign_0 rfl [41] _ _ _ (hc67.2 c68) mr66) (Nat.le_refl _) (Nat.zero_le _) (Nat.zero_le _) (fun z69 S69 V69 hq69 => ?_))
              obtain ⟨rfl, M69, hc70, mr69, hf69⟩ := hq69
              have mf69 := MF.trans mf66 hf69
              exact hrc n_readFactor_89 [z55, z66] _ _ hc70 mr69 mf69
        · refine X_aload_n dX12_readFactor_43 rfl ?_
          refine X_iconst dX12_readFactor_44 (by decide) ?_
          refine X_invV (ci := 12) (as := [vi 5]) (st := []) okX12_fault dX12_readFactor_45 km_RX12_288 rfl rfl (Nat.le_of_ble_eq_true rfl) rfl rfl mr55.1 (CT.of d 0 0 (hcl n_fault_0 rfl [5] _ _ _ (hc56.2 c57) mr55) (Nat.le_refl _) (Nat.zero_le _) (Nat.zero_le _) (fun z71 S71 V71 hq71 => ?_))
          obtain ⟨rfl, M71, hc72, mr71, hf71⟩ := hq71
          have mf71 := MF.trans mf55 hf71
          exact X_ret (z := z71) dX12_readFactor_48 rfl (fun hv => vok_h hv) ⟨rfl, _, hc72, mr71, mf71⟩
  · refine X_iconst dX12_readFactor_7 (by decide) ?_
    exact X_ret (z := (-1)) dX12_readFactor_8 rfl (fun hv => vok_h hv) ⟨rfl, _, (hB.2 c1), mr, mf⟩
def B_readFactor_89 (rc : MP) (cl : MC) (Q : Int → Mem → Prop) (d : Nat) (x1 x2 : Int) (M : Mem) : Prop := -2147483648 ≤ (M 0 42) - 1 ∧ (M 0 42) - 1 ≤ 2147483647 ∧ (0 < (M 0 46) → Q x2 (up M 0 42 ((M 0 42) - 1))) ∧ (¬ (0 < (M 0 46)) → (x1 ≠ 0 → cl n_expression_0 [1, x2, 0] (up M 0 42 ((M 0 42) - 1)) (fun z3 M3 => Q z3 M3)) ∧ (¬ (x1 ≠ 0) → Q x2 (up M 0 42 ((M 0 42) - 1))))
set_option maxRecDepth 10000 in
theorem s_readFactor_89 {l : Launch} {G : GT} {m : Int} {a : Int → Int} {d mc ms : Nat} {S : Sh} {Q : Int → Mem → Prop} {rc : MP} {cl : MC} {V0 V M : Mem} {x1 x2 : Int} (hrc : RCok l G m a S V0 Q d mc ms rc) (hcl : CLok l G m a S d cl) (mr : MR m a S V M) (mf : MF m a V0 V) (hB : B_readFactor_89 rc cl Q d x1 x2 M) : XJ l G bX12_readFactor (Qm m a S V0 Q) (d + 1) 89 [vr m, vi x1, vi x2] [] S V mc ms := by
  unfold B_readFactor_89 at hB
  refine X_aload_n dX12_readFactor_89 rfl ?_
  refine X_dup dX12_readFactor_90 (rv_cat _) ?_
  refine X_getfield (ci := 12) (k := 42) (v := vi (M 0 42)) dX12_readFactor_91 rfl (by decide) kf_RX12_363 (congrArg vi (MR.in_ mr (k := 42) (by decide) rfl)) mr.1 ?_
  refine X_iconst dX12_readFactor_94 (by decide) ?_
  refine X_isubN dX12_readFactor_95 hB.1 hB.2.1 ?_
  refine X_putfield (ci := 12) (k := 42) (z := ((M 0 42) - 1)) dX12_readFactor_96 rfl (by decide) kf_RX12_363 (Or.inl rfl) (Or.inl rfl) rfl (fun hv => hv) mr.1 ?_
  refine X_aload_n dX12_readFactor_99 rfl ?_
  refine X_getfield (ci := 12) (k := 46) (v := vi (M 0 46)) dX12_readFactor_100 rfl (by decide) kf_RX12_275 (congrArg vi (MR.in_ (MR.putI mr (k := 42) (z := (M 0 42) - 1) (by decide)) (k := 46) (by decide) (up_ne (Or.inr (by decide))))) (MR.putI mr (k := 42) (z := (M 0 42) - 1) (by decide)).1 ?_
  refine X_if_gt dX12_readFactor_103 (tgt := 110) rfl (fun c1 => ?_) (fun c1 => ?_)
  · refine X_iload_n dX12_readFactor_110 rfl ?_
    refine X_goto dX12_readFactor_111 (tgt := 121) rfl ?_
    exact X_ret (z := x2) dX12_readFactor_121 rfl (fun hv => vok_h hv) ⟨rfl, _, (hB.2.2.1 c1), (MR.putI mr (k := 42) (z := (M 0 42) - 1) (by decide)), (MF.putI mf (k := 42) (z := (M 0 42) - 1))⟩
  · refine X_iload_n dX12_readFactor_106 rfl ?_
    refine X_if_ne dX12_readFactor_107 (tgt := 114) rfl (fun c2 => ?_) (fun c2 => ?_)
    · refine X_aload_n dX12_readFactor_114 rfl ?_
      refine X_iconst dX12_readFactor_115 (by decide) ?_
      refine X_iload_n dX12_readFactor_116 rfl ?_
      refine X_iconst dX12_readFactor_117 (by decide) ?_
      refine X_invV (ci := 12) (as := [vi 1, vi x2, vi 0]) (st := []) okX12_expression dX12_readFactor_118 km_RX12_372 rfl rfl (Nat.le_of_ble_eq_true rfl) rfl rfl (MR.putI mr (k := 42) (z := (M 0 42) - 1) (by decide)).1 (CT.of d 0 0 (hcl n_expression_0 rfl [1, x2, 0] _ _ _ ((hB.2.2.2 c1).1 c2) (MR.putI mr (k := 42) (z := (M 0 42) - 1) (by decide))) (Nat.le_refl _) (Nat.zero_le _) (Nat.zero_le _) (fun z3 S3 V3 hq3 => ?_))
      obtain ⟨rfl, M3, hc4, mr3, hf3⟩ := hq3
      have mf3 := MF.trans (MF.putI mf (k := 42) (z := (M 0 42) - 1)) hf3
      exact X_ret (z := z3) dX12_readFactor_121 rfl (fun hv => vok_h hv) ⟨rfl, _, hc4, mr3, mf3⟩
    · refine X_iload_n dX12_readFactor_110 rfl ?_
      refine X_goto dX12_readFactor_111 (tgt := 121) rfl ?_
      exact X_ret (z := x2) dX12_readFactor_121 rfl (fun hv => vok_h hv) ⟨rfl, _, ((hB.2.2.2 c1).2 c2), (MR.putI mr (k := 42) (z := (M 0 42) - 1) (by decide)), (MF.putI mf (k := 42) (z := (M 0 42) - 1))⟩
def B_readFactor_203 (rc : MP) (cl : MC) (Q : Int → Mem → Prop) (d : Nat) (M : Mem) : Prop := ((M 0 45) = 0 → cl n_isWord_0 [14] M (fun z2 M2 => (z2 = 0 → cl n_readReference_0 [] M2 (fun z5 M5 => Q z5 M5)) ∧ (¬ (z2 = 0) → cl n_expression_0 [9, 0, 0] M2 (fun z7 M7 => cl n_taken_0 [z7] M7 (fun z9 M9 => Q z9 M9))))) ∧ (¬ ((M 0 45) = 0) → cl n_isWord_0 [15] M (fun z11 M11 => (z11 = 0 → cl n_isWord_0 [14] M11 (fun z14 M14 => (z14 = 0 → cl n_readReference_0 [] M14 (fun z17 M17 => Q z17 M17)) ∧ (¬ (z14 = 0) → cl n_expression_0 [9, 0, 0] M14 (fun z19 M19 => cl n_taken_0 [z19] M19 (fun z21 M21 => Q z21 M21))))) ∧ (¬ (z11 = 0) → cl n_expression_0 [8, 0, 0] M11 (fun z23 M23 => cl n_taken_0 [z23] M23 (fun z25 M25 => Q z25 M25)))))
set_option maxRecDepth 10000 in
theorem s_readFactor_203 {l : Launch} {G : GT} {m : Int} {a : Int → Int} {d mc ms : Nat} {S : Sh} {Q : Int → Mem → Prop} {rc : MP} {cl : MC} {V0 V M : Mem} (hrc : RCok l G m a S V0 Q d mc ms rc) (hcl : CLok l G m a S d cl) (mr : MR m a S V M) (mf : MF m a V0 V) (hB : B_readFactor_203 rc cl Q d  M) : XJ l G bX12_readFactor (Qm m a S V0 Q) (d + 1) 203 [vr m, vu, vu] [] S V mc ms := by
  unfold B_readFactor_203 at hB
  refine X_aload_n dX12_readFactor_203 rfl ?_
  refine X_getfield (ci := 12) (k := 45) (v := vi (M 0 45)) dX12_readFactor_204 rfl (by decide) kf_RX12_360 (congrArg vi (MR.in_ mr (k := 45) (by decide) rfl)) mr.1 ?_
  refine X_if_eq dX12_readFactor_207 (tgt := 233) rfl (fun c1 => ?_) (fun c1 => ?_)
  · refine X_aload_n dX12_readFactor_233 rfl ?_
    refine X_ldcS (i := 14) dX12_readFactor_234 (by decide) ⟨rfl, rfl⟩ ?_
    refine X_invV (ci := 12) (as := [vr ((G.2.2.2.1 14 : Int) + 1)]) (st := []) okX12_isWord dX12_readFactor_236 km_RX12_235 rfl rfl (Nat.le_of_ble_eq_true rfl) rfl rfl mr.1 (CT.of d 0 0 (hcl n_isWord_0 rfl [14] _ _ _ (hB.1 c1) mr) (Nat.le_refl _) (Nat.zero_le _) (Nat.zero_le _) (fun z2 S2 V2 hq2 => ?_))
    obtain ⟨rfl, M2, hc3, mr2, hf2⟩ := hq2
    have mf2 := MF.trans mf hf2
    refine X_if_eq dX12_readFactor_239 (tgt := 255) rfl (fun c4 => ?_) (fun c4 => ?_)
    · refine X_aload_n dX12_readFactor_255 rfl ?_
      refine X_invV (ci := 12) (as := []) (st := []) okX12_readReference dX12_readFactor_256 km_RX12_382 rfl rfl (Nat.le_of_ble_eq_true rfl) rfl rfl mr2.1 (CT.of d 0 0 (hcl n_readReference_0 rfl [] _ _ _ (hc3.1 c4) mr2) (Nat.le_refl _) (Nat.zero_le _) (Nat.zero_le _) (fun z5 S5 V5 hq5 => ?_))
      obtain ⟨rfl, M5, hc6, mr5, hf5⟩ := hq5
      have mf5 := MF.trans mf2 hf5
      exact X_ret (z := z5) dX12_readFactor_259 rfl (fun hv => vok_h hv) ⟨rfl, _, hc6, mr5, mf5⟩
    · refine X_aload_n dX12_readFactor_242 rfl ?_
      refine X_aload_n dX12_readFactor_243 rfl ?_
      refine X_bipush dX12_readFactor_244 (by decide) (by decide) ?_
      refine X_iconst dX12_readFactor_246 (by decide) ?_
      refine X_iconst dX12_readFactor_247 (by decide) ?_
      refine X_invV (ci := 12) (as := [vi 9, vi 0, vi 0]) (st := [vr m]) okX12_expression dX12_readFactor_248 km_RX12_372 rfl rfl (Nat.le_of_ble_eq_true rfl) rfl rfl mr2.1 (CT.of d 0 0 (hcl n_expression_0 rfl [9, 0, 0] _ _ _ (hc3.2 c4) mr2) (Nat.le_refl _) (Nat.zero_le _) (Nat.zero_le _) (fun z7 S7 V7 hq7 => ?_))
      obtain ⟨rfl, M7, hc8, mr7, hf7⟩ := hq7
      have mf7 := MF.trans mf2 hf7
      refine X_invV (ci := 12) (as := [vi z7]) (st := []) okX12_taken dX12_readFactor_251 km_RX12_379 rfl rfl (Nat.le_of_ble_eq_true rfl) rfl rfl mr7.1 (CT.of d 0 0 (hcl n_taken_0 rfl [z7] _ _ _ hc8 mr7) (Nat.le_refl _) (Nat.zero_le _) (Nat.zero_le _) (fun z9 S9 V9 hq9 => ?_))
      obtain ⟨rfl, M9, hc10, mr9, hf9⟩ := hq9
      have mf9 := MF.trans mf7 hf9
      exact X_ret (z := z9) dX12_readFactor_254 rfl (fun hv => vok_h hv) ⟨rfl, _, hc10, mr9, mf9⟩
  · refine X_aload_n dX12_readFactor_210 rfl ?_
    refine X_ldcwS (i := 15) dX12_readFactor_211 (by decide) ⟨rfl, rfl⟩ ?_
    refine X_invV (ci := 12) (as := [vr ((G.2.2.2.1 15 : Int) + 1)]) (st := []) okX12_isWord dX12_readFactor_214 km_RX12_235 rfl rfl (Nat.le_of_ble_eq_true rfl) rfl rfl mr.1 (CT.of d 0 0 (hcl n_isWord_0 rfl [15] _ _ _ (hB.2 c1) mr) (Nat.le_refl _) (Nat.zero_le _) (Nat.zero_le _) (fun z11 S11 V11 hq11 => ?_))
    obtain ⟨rfl, M11, hc12, mr11, hf11⟩ := hq11
    have mf11 := MF.trans mf hf11
    refine X_if_eq dX12_readFactor_217 (tgt := 233) rfl (fun c13 => ?_) (fun c13 => ?_)
    · refine X_aload_n dX12_readFactor_233 rfl ?_
      refine X_ldcS (i := 14) dX12_readFactor_234 (by decide) ⟨rfl, rfl⟩ ?_
      refine X_invV (ci := 12) (as := [vr ((G.2.2.2.1 14 : Int) + 1)]) (st := []) okX12_isWord dX12_readFactor_236 km_RX12_235 rfl rfl (Nat.le_of_ble_eq_true rfl) rfl rfl mr11.1 (CT.of d 0 0 (hcl n_isWord_0 rfl [14] _ _ _ (hc12.1 c13) mr11) (Nat.le_refl _) (Nat.zero_le _) (Nat.zero_le _) (fun z14 S14 V14 hq14 => ?_))
      obtain ⟨rfl, M14, hc15, mr14, hf14⟩ := hq14
      have mf14 := MF.trans mf11 hf14
      refine X_if_eq dX12_readFactor_239 (tgt := 255) rfl (fun c16 => ?_) (fun c16 => ?_)
      · refine X_aload_n dX12_readFactor_255 rfl ?_
        refine X_invV (ci := 12) (as := []) (st := []) okX12_readReference dX12_readFactor_256 km_RX12_382 rfl rfl (Nat.le_of_ble_eq_true rfl) rfl rfl mr14.1 (CT.of d 0 0 (hcl n_readReference_0 rfl [] _ _ _ (hc15.1 c16) mr14) (Nat.le_refl _) (Nat.zero_le _) (Nat.zero_le _) (fun z17 S17 V17 hq17 => ?_))
        obtain ⟨rfl, M17, hc18, mr17, hf17⟩ := hq17
        have mf17 := MF.trans mf14 hf17
        exact X_ret (z := z17) dX12_readFactor_259 rfl (fun hv => vok_h hv) ⟨rfl, _, hc18, mr17, mf17⟩
      · refine X_aload_n dX12_readFactor_242 rfl ?_
        refine X_aload_n dX12_readFactor_243 rfl ?_
        refine X_bipush dX12_readFactor_244 (by decide) (by decide) ?_
        refine X_iconst dX12_readFactor_246 (by decide) ?_
        refine X_iconst dX12_readFactor_247 (by decide) ?_
        refine X_invV (ci := 12) (as := [vi 9, vi 0, vi 0]) (st := [vr m]) okX12_expression dX12_readFactor_248 km_RX12_372 rfl rfl (Nat.le_of_ble_eq_true rfl) rfl rfl mr14.1 (CT.of d 0 0 (hcl n_expression_0 rfl [9, 0, 0] _ _ _ (hc15.2 c16) mr14) (Nat.le_refl _) (Nat.zero_le _) (Nat.zero_le _) (fun z19 S19 V19 hq19 => ?_))
        obtain ⟨rfl, M19, hc20, mr19, hf19⟩ := hq19
        have mf19 := MF.trans mf14 hf19
        refine X_invV (ci := 12) (as := [vi z19]) (st := []) okX12_taken dX12_readFactor_251 km_RX12_379 rfl rfl (Nat.le_of_ble_eq_true rfl) rfl rfl mr19.1 (CT.of d 0 0 (hcl n_taken_0 rfl [z19] _ _ _ hc20 mr19) (Nat.le_refl _) (Nat.zero_le _) (Nat.zero_le _) (fun z21 S21 V21 hq21 => ?_))
        obtain ⟨rfl, M21, hc22, mr21, hf21⟩ := hq21
        have mf21 := MF.trans mf19 hf21
        exact X_ret (z := z21) dX12_readFactor_254 rfl (fun hv => vok_h hv) ⟨rfl, _, hc22, mr21, mf21⟩
    · refine X_aload_n dX12_readFactor_220 rfl ?_
      refine X_aload_n dX12_readFactor_221 rfl ?_
      refine X_bipush dX12_readFactor_222 (by decide) (by decide) ?_
      refine X_iconst dX12_readFactor_224 (by decide) ?_
      refine X_iconst dX12_readFactor_225 (by decide) ?_
      refine X_invV (ci := 12) (as := [vi 8, vi 0, vi 0]) (st := [vr m]) okX12_expression dX12_readFactor_226 km_RX12_372 rfl rfl (Nat.le_of_ble_eq_true rfl) rfl rfl mr11.1 (CT.of d 0 0 (hcl n_expression_0 rfl [8, 0, 0] _ _ _ (hc12.2 c13) mr11) (Nat.le_refl _) (Nat.zero_le _) (Nat.zero_le _) (fun z23 S23 V23 hq23 => ?_))
      obtain ⟨rfl, M23, hc24, mr23, hf23⟩ := hq23
      have mf23 := MF.trans mf11 hf23
      refine X_invV (ci := 12) (as := [vi z23]) (st := []) okX12_taken dX12_readFactor_229 km_RX12_379 rfl rfl (Nat.le_of_ble_eq_true rfl) rfl rfl mr23.1 (CT.of d 0 0 (hcl n_taken_0 rfl [z23] _ _ _ hc24 mr23) (Nat.le_refl _) (Nat.zero_le _) (Nat.zero_le _) (fun z25 S25 V25 hq25 => ?_))
      obtain ⟨rfl, M25, hc26, mr25, hf25⟩ := hq25
      have mf25 := MF.trans mf23 hf25
      exact X_ret (z := z25) dX12_readFactor_232 rfl (fun hv => vok_h hv) ⟨rfl, _, hc26, mr25, mf25⟩
def B_taken_0 (rc : MP) (cl : MC) (Q : Int → Mem → Prop) (d : Nat) (x1 : Int) (M : Mem) : Prop := cl n_next_0 [] M (fun z1 M1 => Q x1 M1)
set_option maxRecDepth 10000 in
theorem s_taken_0 {l : Launch} {G : GT} {m : Int} {a : Int → Int} {d mc ms : Nat} {S : Sh} {Q : Int → Mem → Prop} {rc : MP} {cl : MC} {V0 V M : Mem} {x1 : Int} (hrc : RCok l G m a S V0 Q d mc ms rc) (hcl : CLok l G m a S d cl) (mr : MR m a S V M) (mf : MF m a V0 V) (hB : B_taken_0 rc cl Q d x1 M) : XJ l G bX12_taken (Qm m a S V0 Q) (d + 1) 0 [vr m, vi x1] [] S V mc ms := by
  unfold B_taken_0 at hB
  refine X_aload_n dX12_taken_0 rfl ?_
  refine X_invV (ci := 12) (as := []) (st := []) okX12_next dX12_taken_1 km_RX12_285 rfl rfl (Nat.le_of_ble_eq_true rfl) rfl rfl mr.1 (CT.of d 0 0 (hcl n_next_0 rfl [] _ _ _ hB mr) (Nat.le_refl _) (Nat.zero_le _) (Nat.zero_le _) (fun z1 S1 V1 hq1 => ?_))
  obtain ⟨rfl, M1, hc2, mr1, hf1⟩ := hq1
  have mf1 := MF.trans mf hf1
  refine X_iload_n dX12_taken_4 rfl ?_
  exact X_ret (z := x1) dX12_taken_5 rfl (fun hv => vok_h hv) ⟨rfl, _, hc2, mr1, mf1⟩
def B_readReference_0 (rc : MP) (cl : MC) (Q : Int → Mem → Prop) (d : Nat) (M : Mem) : Prop := cl n_isName_0 [] M (fun z1 M1 => (z1 ≠ 0 → cl n_nameHere_0 [] M1 (fun z4 M4 => -2147483648 ≤ (M4 0 51) + 1 ∧ (M4 0 51) + 1 ≤ 2147483647 ∧ 0 ≤ (M4 0 51) ∧ (M4 0 51) < 3100 ∧ cl n_next_0 [] (up (up (up M4 0 51 ((M4 0 51) + 1)) 49 (M4 0 51) (-1)) 50 (M4 0 51) z4) (fun z6 M6 => cl n_isSign_0 [46] M6 (fun z8 M8 => (z8 = 0 → cl n_expression_0 [10, (-1), (-1)] M8 (fun z11 M11 => 0 ≤ (M4 0 51) ∧ (M4 0 51) < 3100 ∧ (0 < (M11 0 46) → Q z11 (up M11 48 (M4 0 51) z11)) ∧ (¬ (0 < (M11 0 46)) → cl n_isSign_0 [91] (up M11 48 (M4 0 51) z11) (fun z14 M14 => (z14 ≠ 0 → ((M14 0 42) ≠ 12 → -2147483648 ≤ (M14 0 42) + 1 ∧ (M14 0 42) + 1 ≤ 2147483647 ∧ cl n_next_0 [] (up M14 0 42 ((M14 0 42) + 1)) (fun z18 M18 => cl n_readSum_0 [] M18 (fun z20 M20 => cl n_sign_0 [93] M20 (fun z22 M22 => -2147483648 ≤ (M22 0 42) - 1 ∧ (M22 0 42) - 1 ≤ 2147483647 ∧ ((M22 0 46) ≤ 0 → 0 ≤ z11 ∧ z11 < 31000 ∧ Q z11 (up (up (up M22 0 42 ((M22 0 42) - 1)) 35 z11 12) 37 z11 z20)) ∧ (¬ ((M22 0 46) ≤ 0) → Q z11 (up M22 0 42 ((M22 0 42) - 1))))))) ∧ (¬ ((M14 0 42) ≠ 12) → cl n_fault_0 [5] M14 (fun z25 M25 => Q z25 M25))) ∧ (¬ (z14 ≠ 0) → Q z11 M14))))) ∧ (¬ (z8 = 0) → cl n_next_0 [] M8 (fun z27 M27 => cl n_isName_0 [] M27 (fun z29 M29 => (z29 ≠ 0 → 0 ≤ (M4 0 51) ∧ (M4 0 51) < 3100 ∧ cl n_nameHere_0 [] (up M29 49 (M4 0 51) z4) (fun z32 M32 => 0 ≤ (M4 0 51) ∧ (M4 0 51) < 3100 ∧ cl n_next_0 [] (up M32 50 (M4 0 51) z32) (fun z34 M34 => cl n_expression_0 [10, (-1), (-1)] M34 (fun z36 M36 => 0 ≤ (M4 0 51) ∧ (M4 0 51) < 3100 ∧ (0 < (M36 0 46) → Q z36 (up M36 48 (M4 0 51) z36)) ∧ (¬ (0 < (M36 0 46)) → cl n_isSign_0 [91] (up M36 48 (M4 0 51) z36) (fun z39 M39 => (z39 ≠ 0 → ((M39 0 42) ≠ 12 → -2147483648 ≤ (M39 0 42) + 1 ∧ (M39 0 42) + 1 ≤ 2147483647 ∧ cl n_next_0 [] (up M39 0 42 ((M39 0 42) + 1)) (fun z43 M43 => cl n_readSum_0 [] M43 (fun z45 M45 => cl n_sign_0 [93] M45 (fun z47 M47 => -2147483648 ≤ (M47 0 42) - 1 ∧ (M47 0 42) - 1 ≤ 2147483647 ∧ ((M47 0 46) ≤ 0 → 0 ≤ z36 ∧ z36 < 31000 ∧ Q z36 (up (up (up M47 0 42 ((M47 0 42) - 1)) 35 z36 12) 37 z36 z45)) ∧ (¬ ((M47 0 46) ≤ 0) → Q z36 (up M47 0 42 ((M47 0 42) - 1))))))) ∧ (¬ ((M39 0 42) ≠ 12) → cl n_fault_0 [5] M39 (fun z50 M50 => Q z50 M50))) ∧ (¬ (z39 ≠ 0) → Q z36 M39))))))) ∧ (¬ (z29 ≠ 0) → cl n_fault_0 [2] M29 (fun z52 M52 => Q z52 M52))))))))) ∧ (¬ (z1 ≠ 0) → cl n_fault_0 [2] M1 (fun z54 M54 => Q z54 M54)))
set_option maxRecDepth 10000 in
theorem s_readReference_0 {l : Launch} {G : GT} {m : Int} {a : Int → Int} {d mc ms : Nat} {S : Sh} {Q : Int → Mem → Prop} {rc : MP} {cl : MC} {V0 V M : Mem} (hrc : RCok l G m a S V0 Q d mc ms rc) (hcl : CLok l G m a S d cl) (mr : MR m a S V M) (mf : MF m a V0 V) (hB : B_readReference_0 rc cl Q d  M) : XJ l G bX12_readReference (Qm m a S V0 Q) (d + 1) 0 [vr m, vu, vu, vu, vu] [] S V mc ms := by
  unfold B_readReference_0 at hB
  refine X_aload_n dX12_readReference_0 rfl ?_
  refine X_invV (ci := 12) (as := []) (st := []) okX12_isName dX12_readReference_1 km_RX12_291 rfl rfl (Nat.le_of_ble_eq_true rfl) rfl rfl mr.1 (CT.of d 0 0 (hcl n_isName_0 rfl [] _ _ _ hB mr) (Nat.le_refl _) (Nat.zero_le _) (Nat.zero_le _) (fun z1 S1 V1 hq1 => ?_))
  obtain ⟨rfl, M1, hc2, mr1, hf1⟩ := hq1
  have mf1 := MF.trans mf hf1
  refine X_if_ne dX12_readReference_4 (tgt := 13) rfl (fun c3 => ?_) (fun c3 => ?_)
  · refine X_aload_n dX12_readReference_13 rfl ?_
    refine X_invV (ci := 12) (as := []) (st := []) okX12_nameHere dX12_readReference_14 km_RX12_294 rfl rfl (Nat.le_of_ble_eq_true rfl) rfl rfl mr1.1 (CT.of d 0 0 (hcl n_nameHere_0 rfl [] _ _ _ (hc2.1 c3) mr1) (Nat.le_refl _) (Nat.zero_le _) (Nat.zero_le _) (fun z4 S4 V4 hq4 => ?_))
    obtain ⟨rfl, M4, hc5, mr4, hf4⟩ := hq4
    have mf4 := MF.trans mf1 hf4
    refine X_istore_n dX12_readReference_17 (by decide) rfl ?_
    refine X_aload_n dX12_readReference_18 rfl ?_
    refine X_getfield (ci := 12) (k := 51) (v := vi (M4 0 51)) dX12_readReference_19 rfl (by decide) kf_RX12_301 (congrArg vi (MR.in_ mr4 (k := 51) (by decide) rfl)) mr4.1 ?_
    refine X_istore_n dX12_readReference_22 (by decide) rfl ?_
    refine X_aload_n dX12_readReference_23 rfl ?_
    refine X_dup dX12_readReference_24 (rv_cat _) ?_
    refine X_getfield (ci := 12) (k := 51) (v := vi (M4 0 51)) dX12_readReference_25 rfl (by decide) kf_RX12_301 (congrArg vi (MR.in_ mr4 (k := 51) (by decide) rfl)) mr4.1 ?_
    refine X_iconst dX12_readReference_28 (by decide) ?_
    refine X_iaddN dX12_readReference_29 hc5.1 hc5.2.1 ?_
    refine X_putfield (ci := 12) (k := 51) (z := ((M4 0 51) + 1)) dX12_readReference_30 rfl (by decide) kf_RX12_301 (Or.inl rfl) (Or.inl rfl) rfl (fun hv => hv) mr4.1 ?_
    refine X_aload_n dX12_readReference_33 rfl ?_
    refine X_getfield (ci := 12) (k := 49) (v := vr (a 49)) dX12_readReference_34 rfl (by decide) kf_RX12_110 (congrArg vr (MR.ar (MR.putI mr4 (k := 51) (z := (M4 0 51) + 1) (by decide)) (k := 49) (by decide)).1) (MR.putI mr4 (k := 51) (z := (M4 0 51) + 1) (by decide)).1 ?_
    refine X_iload_n dX12_readReference_37 rfl ?_
    refine X_iconst dX12_readReference_38 (by decide) ?_
    refine X_iastore dX12_readReference_39 ((MR.ar (MR.putI mr4 (k := 51) (z := (M4 0 51) + 1) (by decide)) (k := 49) (by decide)).2.1.trans (by decide)) hc5.2.2.1 (lt_eq hc5.2.2.2.1 (MR.ln (MR.putI mr4 (k := 51) (z := (M4 0 51) + 1) (by decide)) (k := 49) (by decide) (by decide))) ?_
    refine X_aload_n dX12_readReference_40 rfl ?_
    refine X_getfield (ci := 12) (k := 50) (v := vr (a 50)) dX12_readReference_41 rfl (by decide) kf_RX12_113 (congrArg vr (MR.ar (MR.putA (MR.putI mr4 (k := 51) (z := (M4 0 51) + 1) (by decide)) (k := 49) (j := M4 0 51) (z := (-1)) (by decide)) (k := 50) (by decide)).1) (MR.putA (MR.putI mr4 (k := 51) (z := (M4 0 51) + 1) (by decide)) (k := 49) (j := M4 0 51) (z := (-1)) (by decide)).1 ?_
    refine X_iload_n dX12_readReference_44 rfl ?_
    refine X_iload_n dX12_readReference_45 rfl ?_
    refine X_iastore dX12_readReference_46 ((MR.ar (MR.putA (MR.putI mr4 (k := 51) (z := (M4 0 51) + 1) (by decide)) (k := 49) (j := M4 0 51) (z := (-1)) (by decide)) (k := 50) (by decide)).2.1.trans (by decide)) hc5.2.2.1 (lt_eq hc5.2.2.2.1 (MR.ln (MR.putA (MR.putI mr4 (k := 51) (z := (M4 0 51) + 1) (by decide)) (k := 49) (j := M4 0 51) (z := (-1)) (by decide)) (k := 50) (by decide) (by decide))) ?_
    refine X_aload_n dX12_readReference_47 rfl ?_
    refine X_invV (ci := 12) (as := []) (st := []) okX12_next dX12_readReference_48 km_RX12_285 rfl rfl (Nat.le_of_ble_eq_true rfl) rfl rfl (MR.putA (MR.putA (MR.putI mr4 (k := 51) (z := (M4 0 51) + 1) (by decide)) (k := 49) (j := M4 0 51) (z := (-1)) (by decide)) (k := 50) (j := M4 0 51) (z := z4) (by decide)).1 (CT.of d 0 0 (hcl n_next_0 rfl [] _ _ _ hc5.2.2.2.2 (MR.putA (MR.putA (MR.putI mr4 (k := 51) (z := (M4 0 51) + 1) (by decide)) (k := 49) (j := M4 0 51) (z := (-1)) (by decide)) (k := 50) (j := M4 0 51) (z := z4) (by decide))) (Nat.le_refl _) (Nat.zero_le _) (Nat.zero_le _) (fun z6 S6 V6 hq6 => ?_))
    obtain ⟨rfl, M6, hc7, mr6, hf6⟩ := hq6
    have mf6 := MF.trans (MF.putA (MF.putA (MF.putI mf4 (k := 51) (z := (M4 0 51) + 1)) (k := 49) (j := M4 0 51) (z := (-1)) (by decide)) (k := 50) (j := M4 0 51) (z := z4) (by decide)) hf6
    refine X_aload_n dX12_readReference_51 rfl ?_
    refine X_bipush dX12_readReference_52 (by decide) (by decide) ?_
    refine X_invV (ci := 12) (as := [vi 46]) (st := []) okX12_isSign dX12_readReference_54 km_RX12_281 rfl rfl (Nat.le_of_ble_eq_true rfl) rfl rfl mr6.1 (CT.of d 0 0 (hcl n_isSign_0 rfl [46] _ _ _ hc7 mr6) (Nat.le_refl _) (Nat.zero_le _) (Nat.zero_le _) (fun z8 S8 V8 hq8 => ?_))
    obtain ⟨rfl, M8, hc9, mr8, hf8⟩ := hq8
    have mf8 := MF.trans mf6 hf8
    refine X_if_eq dX12_readReference_57 (tgt := 98) rfl (fun c10 => ?_) (fun c10 => ?_)
    · refine X_aload_n dX12_readReference_98 rfl ?_
      refine X_bipush dX12_readReference_99 (by decide) (by decide) ?_
      refine X_iconst dX12_readReference_101 (by decide) ?_
      refine X_iconst dX12_readReference_102 (by decide) ?_
      refine X_invV (ci := 12) (as := [vi 10, vi (-1), vi (-1)]) (st := []) okX12_expression dX12_readReference_103 km_RX12_372 rfl rfl (Nat.le_of_ble_eq_true rfl) rfl rfl mr8.1 (CT.of d 0 0 (hcl n_expression_0 rfl [10, (-1), (-1)] _ _ _ (hc9.1 c10) mr8) (Nat.le_refl _) (Nat.zero_le _) (Nat.zero_le _) (fun z11 S11 V11 hq11 => ?_))
      obtain ⟨rfl, M11, hc12, mr11, hf11⟩ := hq11
      have mf11 := MF.trans mf8 hf11
      refine X_istore_n dX12_readReference_106 (by decide) rfl ?_
      refine X_aload_n dX12_readReference_107 rfl ?_
      refine X_getfield (ci := 12) (k := 48) (v := vr (a 48)) dX12_readReference_108 rfl (by decide) kf_RX12_107 (congrArg vr (MR.ar mr11 (k := 48) (by decide)).1) mr11.1 ?_
      refine X_iload_n dX12_readReference_111 rfl ?_
      refine X_iload_n dX12_readReference_112 rfl ?_
      refine X_iastore dX12_readReference_113 ((MR.ar mr11 (k := 48) (by decide)).2.1.trans (by decide)) hc12.1 (lt_eq hc12.2.1 (MR.ln mr11 (k := 48) (by decide) (by decide))) ?_
      refine X_aload_n dX12_readReference_114 rfl ?_
      refine X_getfield (ci := 12) (k := 46) (v := vi (M11 0 46)) dX12_readReference_115 rfl (by decide) kf_RX12_275 (congrArg vi (MR.in_ (MR.putA mr11 (k := 48) (j := M4 0 51) (z := z11) (by decide)) (k := 46) (by decide) (up_ne (Or.inl (by decide))))) (MR.putA mr11 (k := 48) (j := M4 0 51) (z := z11) (by decide)).1 ?_
      refine X_if_gt dX12_readReference_118 (tgt := 130) rfl (fun c13 => ?_) (fun c13 => ?_)
      · refine X_iload_n dX12_readReference_130 rfl ?_
        exact X_ret (z := z11) dX12_readReference_131 rfl (fun hv => vok_h hv) ⟨rfl, _, (hc12.2.2.1 c13), (MR.putA mr11 (k := 48) (j := M4 0 51) (z := z11) (by decide)), (MF.putA mf11 (k := 48) (j := M4 0 51) (z := z11) (by decide))⟩
      · refine X_aload_n dX12_readReference_121 rfl ?_
        refine X_bipush dX12_readReference_122 (by decide) (by decide) ?_
        refine X_invV (ci := 12) (as := [vi 91]) (st := []) okX12_isSign dX12_readReference_124 km_RX12_281 rfl rfl (Nat.le_of_ble_eq_true rfl) rfl rfl (MR.putA mr11 (k := 48) (j := M4 0 51) (z := z11) (by decide)).1 (CT.of d 0 0 (hcl n_isSign_0 rfl [91] _ _ _ (hc12.2.2.2 c13) (MR.putA mr11 (k := 48) (j := M4 0 51) (z := z11) (by decide))) (Nat.le_refl _) (Nat.zero_le _) (Nat.zero_le _) (fun z14 S14 V14 hq14 => ?_))
        obtain ⟨rfl, M14, hc15, mr14, hf14⟩ := hq14
        have mf14 := MF.trans (MF.putA mf11 (k := 48) (j := M4 0 51) (z := z11) (by decide)) hf14
        refine X_if_ne dX12_readReference_127 (tgt := 132) rfl (fun c16 => ?_) (fun c16 => ?_)
        · refine X_aload_n dX12_readReference_132 rfl ?_
          refine X_getfield (ci := 12) (k := 42) (v := vi (M14 0 42)) dX12_readReference_133 rfl (by decide) kf_RX12_363 (congrArg vi (MR.in_ mr14 (k := 42) (by decide) rfl)) mr14.1 ?_
          refine X_bipush dX12_readReference_136 (by decide) (by decide) ?_
          refine X_icmp_ne dX12_readReference_138 (tgt := 147) rfl (fun c17 => ?_) (fun c17 => ?_)
          · refine X_aload_n dX12_readReference_147 rfl ?_
            refine X_dup dX12_readReference_148 (rv_cat _) ?_
            refine X_getfield (ci := 12) (k := 42) (v := vi (M14 0 42)) dX12_readReference_149 rfl (by decide) kf_RX12_363 (congrArg vi (MR.in_ mr14 (k := 42) (by decide) rfl)) mr14.1 ?_
            refine X_iconst dX12_readReference_152 (by decide) ?_
            refine X_iaddN dX12_readReference_153 ((hc15.1 c16).1 c17).1 ((hc15.1 c16).1 c17).2.1 ?_
            refine X_putfield (ci := 12) (k := 42) (z := ((M14 0 42) + 1)) dX12_readReference_154 rfl (by decide) kf_RX12_363 (Or.inl rfl) (Or.inl rfl) rfl (fun hv => hv) mr14.1 ?_
            refine X_aload_n dX12_readReference_157 rfl ?_
            refine X_invV (ci := 12) (as := []) (st := []) okX12_next dX12_readReference_158 km_RX12_285 rfl rfl (Nat.le_of_ble_eq_true rfl) rfl rfl (MR.putI mr14 (k := 42) (z := (M14 0 42) + 1) (by decide)).1 (CT.of d 0 0 (hcl n_next_0 rfl [] _ _ _ ((hc15.1 c16).1 c17).2.2 (MR.putI mr14 (k := 42) (z := (M14 0 42) + 1) (by decide))) (Nat.le_refl _) (Nat.zero_le _) (Nat.zero_le _) (fun z18 S18 V18 hq18 => ?_))
            obtain ⟨rfl, M18, hc19, mr18, hf18⟩ := hq18
            have mf18 := MF.trans (MF.putI mf14 (k := 42) (z := (M14 0 42) + 1)) hf18
            refine X_aload_n dX12_readReference_161 rfl ?_
            refine X_invV (ci := 12) (as := []) (st := []) okX12_readSum dX12_readReference_162 km_RX12_366 rfl rfl (Nat.le_of_ble_eq_true rfl) rfl rfl mr18.1 (CT.of d 0 0 (hcl n_readSum_0 rfl [] _ _ _ hc19 mr18) (Nat.le_refl _) (Nat.zero_le _) (Nat.zero_le _) (fun z20 S20 V20 hq20 => ?_))
            obtain ⟨rfl, M20, hc21, mr20, hf20⟩ := hq20
            have mf20 := MF.trans mf18 hf20
            refine X_istore dX12_readReference_165 (by decide) rfl ?_
            refine X_aload_n dX12_readReference_167 rfl ?_
            refine X_bipush dX12_readReference_168 (by decide) (by decide) ?_
            refine X_invV (ci := 12) (as := [vi 93]) (st := []) okX12_sign dX12_readReference_170 km_RX12_318 rfl rfl (Nat.le_of_ble_eq_true rfl) rfl rfl mr20.1 (CT.of d 0 0 (hcl n_sign_0 rfl [93] _ _ _ hc21 mr20) (Nat.le_refl _) (Nat.zero_le _) (Nat.zero_le _) (fun z22 S22 V22 hq22 => ?_))
            obtain ⟨rfl, M22, hc23, mr22, hf22⟩ := hq22
            have mf22 := MF.trans mf20 hf22
            refine X_aload_n dX12_readReference_173 rfl ?_
            refine X_dup dX12_readReference_174 (rv_cat _) ?_
            refine X_getfield (ci := 12) (k := 42) (v := vi (M22 0 42)) dX12_readReference_175 rfl (by decide) kf_RX12_363 (congrArg vi (MR.in_ mr22 (k := 42) (by decide) rfl)) mr22.1 ?_
            refine X_iconst dX12_readReference_178 (by decide) ?_
            refine X_isubN dX12_readReference_179 hc23.1 hc23.2.1 ?_
            refine X_putfield (ci := 12) (k := 42) (z := ((M22 0 42) - 1)) dX12_readReference_180 rfl (by decide) kf_RX12_363 (Or.inl rfl) (Or.inl rfl) rfl (fun hv => hv) mr22.1 ?_
            refine X_aload_n dX12_readReference_183 rfl ?_
            refine X_getfield (ci := 12) (k := 46) (v := vi (M22 0 46)) dX12_readReference_184 rfl (by decide) kf_RX12_275 (congrArg vi (MR.in_ (MR.putI mr22 (k := 42) (z := (M22 0 42) - 1) (by decide)) (k := 46) (by decide) (up_ne (Or.inr (by decide))))) (MR.putI mr22 (k := 42) (z := (M22 0 42) - 1) (by decide)).1 ?_
            refine X_if_le dX12_readReference_187 (tgt := 192) rfl (fun c24 => ?_) (fun c24 => ?_)
            · refine X_aload_n dX12_readReference_192 rfl ?_
              refine X_getfield (ci := 12) (k := 35) (v := vr (a 35)) dX12_readReference_193 rfl (by decide) kf_RX12_92 (congrArg vr (MR.ar (MR.putI mr22 (k := 42) (z := (M22 0 42) - 1) (by decide)) (k := 35) (by decide)).1) (MR.putI mr22 (k := 42) (z := (M22 0 42) - 1) (by decide)).1 ?_
              refine X_iload_n dX12_readReference_196 rfl ?_
              refine X_bipush dX12_readReference_197 (by decide) (by decide) ?_
              refine X_iastore dX12_readReference_199 ((MR.ar (MR.putI mr22 (k := 42) (z := (M22 0 42) - 1) (by decide)) (k := 35) (by decide)).2.1.trans (by decide)) (hc23.2.2.1 c24).1 (lt_eq (hc23.2.2.1 c24).2.1 (MR.ln (MR.putI mr22 (k := 42) (z := (M22 0 42) - 1) (by decide)) (k := 35) (by decide) (by decide))) ?_
              refine X_aload_n dX12_readReference_200 rfl ?_
              refine X_getfield (ci := 12) (k := 37) (v := vr (a 37)) dX12_readReference_201 rfl (by decide) kf_RX12_98 (congrArg vr (MR.ar (MR.putA (MR.putI mr22 (k := 42) (z := (M22 0 42) - 1) (by decide)) (k := 35) (j := z11) (z := 12) (by decide)) (k := 37) (by decide)).1) (MR.putA (MR.putI mr22 (k := 42) (z := (M22 0 42) - 1) (by decide)) (k := 35) (j := z11) (z := 12) (by decide)).1 ?_
              refine X_iload_n dX12_readReference_204 rfl ?_
              refine X_iload dX12_readReference_205 rfl ?_
              refine X_iastore dX12_readReference_207 ((MR.ar (MR.putA (MR.putI mr22 (k := 42) (z := (M22 0 42) - 1) (by decide)) (k := 35) (j := z11) (z := 12) (by decide)) (k := 37) (by decide)).2.1.trans (by decide)) (hc23.2.2.1 c24).1 (lt_eq (hc23.2.2.1 c24).2.1 (MR.ln (MR.putA (MR.putI mr22 (k := 42) (z := (M22 0 42) - 1) (by decide)) (k := 35) (j := z11) (z := 12) (by decide)) (k := 37) (by decide) (by decide))) ?_
              refine X_iload_n dX12_readReference_208 rfl ?_
              exact X_ret (z := z11) dX12_readReference_209 rfl (fun hv => vok_h hv) ⟨rfl, _, (hc23.2.2.1 c24).2.2, (MR.putA (MR.putA (MR.putI mr22 (k := 42) (z := (M22 0 42) - 1) (by decide)) (k := 35) (j := z11) (z := 12) (by decide)) (k := 37) (j := z11) (z := z20) (by decide)), (MF.putA (MF.putA (MF.putI mf22 (k := 42) (z := (M22 0 42) - 1)) (k := 35) (j := z11) (z := 12) (by decide)) (k := 37) (j := z11) (z := z20) (by decide))⟩
            · refine X_iload_n dX12_readReference_190 rfl ?_
              exact X_ret (z := z11) dX12_readReference_191 rfl (fun hv => vok_h hv) ⟨rfl, _, (hc23.2.2.2 c24), (MR.putI mr22 (k := 42) (z := (M22 0 42) - 1) (by decide)), (MF.putI mf22 (k := 42) (z := (M22 0 42) - 1))⟩
          · refine X_aload_n dX12_readReference_141 rfl ?_
            refine X_iconst dX12_readReference_142 (by decide) ?_
            refine X_invV (ci := 12) (as := [vi 5]) (st := []) okX12_fault dX12_readReference_143 km_RX12_288 rfl rfl (Nat.le_of_ble_eq_true rfl) rfl rfl mr14.1 (CT.of d 0 0 (hcl n_fault_0 rfl [5] _ _ _ ((hc15.1 c16).2 c17) mr14) (Nat.le_refl _) (Nat.zero_le _) (Nat.zero_le _) (fun z25 S25 V25 hq25 => ?_))
            obtain ⟨rfl, M25, hc26, mr25, hf25⟩ := hq25
            have mf25 := MF.trans mf14 hf25
            exact X_ret (z := z25) dX12_readReference_146 rfl (fun hv => vok_h hv) ⟨rfl, _, hc26, mr25, mf25⟩
        · refine X_iload_n dX12_readReference_130 rfl ?_
          exact X_ret (z := z11) dX12_readReference_131 rfl (fun hv => vok_h hv) ⟨rfl, _, (hc15.2 c16), mr14, mf14⟩
    · refine X_aload_n dX12_readReference_60 rfl ?_
      refine X_invV (ci := 12) (as := []) (st := []) okX12_next dX12_readReference_61 km_RX12_285 rfl rfl (Nat.le_of_ble_eq_true rfl) rfl rfl mr8.1 (CT.of d 0 0 (hcl n_next_0 rfl [] _ _ _ (hc9.2 c10) mr8) (Nat.le_refl _) (Nat.zero_le _) (Nat.zero_le _) (fun z27 S27 V27 hq27 => ?_))
      obtain ⟨rfl, M27, hc28, mr27, hf27⟩ := hq27
      have mf27 := MF.trans mf8 hf27
      refine X_aload_n dX12_readReference_64 rfl ?_
      refine X_invV (ci := 12) (as := []) (st := []) okX12_isName dX12_readReference_65 km_RX12_291 rfl rfl (Nat.le_of_ble_eq_true rfl) rfl rfl mr27.1 (CT.of d 0 0 (hcl n_isName_0 rfl [] _ _ _ hc28 mr27) (Nat.le_refl _) (Nat.zero_le _) (Nat.zero_le _) (fun z29 S29 V29 hq29 => ?_))
      obtain ⟨rfl, M29, hc30, mr29, hf29⟩ := hq29
      have mf29 := MF.trans mf27 hf29
      refine X_if_ne dX12_readReference_68 (tgt := 77) rfl (fun c31 => ?_) (fun c31 => ?_)
      · refine X_aload_n dX12_readReference_77 rfl ?_
        refine X_getfield (ci := 12) (k := 49) (v := vr (a 49)) dX12_readReference_78 rfl (by decide) kf_RX12_110 (congrArg vr (MR.ar mr29 (k := 49) (by decide)).1) mr29.1 ?_
        refine X_iload_n dX12_readReference_81 rfl ?_
        refine X_iload_n dX12_readReference_82 rfl ?_
        refine X_iastore dX12_readReference_83 ((MR.ar mr29 (k := 49) (by decide)).2.1.trans (by decide)) (hc30.1 c31).1 (lt_eq (hc30.1 c31).2.1 (MR.ln mr29 (k := 49) (by decide) (by decide))) ?_
        refine X_aload_n dX12_readReference_84 rfl ?_
        refine X_getfield (ci := 12) (k := 50) (v := vr (a 50)) dX12_readReference_85 rfl (by decide) kf_RX12_113 (congrArg vr (MR.ar (MR.putA mr29 (k := 49) (j := M4 0 51) (z := z4) (by decide)) (k := 50) (by decide)).1) (MR.putA mr29 (k := 49) (j := M4 0 51) (z := z4) (by decide)).1 ?_
        refine X_iload_n dX12_readReference_88 rfl ?_
        refine X_aload_n dX12_readReference_89 rfl ?_
        refine X_invV (ci := 12) (as := []) (st := [vi (M4 0 51), vr (a 50)]) okX12_nameHere dX12_readReference_90 km_RX12_294 rfl rfl (Nat.le_of_ble_eq_true rfl) rfl rfl (MR.putA mr29 (k := 49) (j := M4 0 51) (z := z4) (by decide)).1 (CT.of d 0 0 (hcl n_nameHere_0 rfl [] _ _ _ (hc30.1 c31).2.2 (MR.putA mr29 (k := 49) (j := M4 0 51) (z := z4) (by decide))) (Nat.le_refl _) (Nat.zero_le _) (Nat.zero_le _) (fun z32 S32 V32 hq32 => ?_))
        obtain ⟨rfl, M32, hc33, mr32, hf32⟩ := hq32
        have mf32 := MF.trans (MF.putA mf29 (k := 49) (j := M4 0 51) (z := z4) (by decide)) hf32
        refine X_iastore dX12_readReference_93 ((MR.ar mr32 (k := 50) (by decide)).2.1.trans (by decide)) hc33.1 (lt_eq hc33.2.1 (MR.ln mr32 (k := 50) (by decide) (by decide))) ?_
        refine X_aload_n dX12_readReference_94 rfl ?_
        refine X_invV (ci := 12) (as := []) (st := []) okX12_next dX12_readReference_95 km_RX12_285 rfl rfl (Nat.le_of_ble_eq_true rfl) rfl rfl (MR.putA mr32 (k := 50) (j := M4 0 51) (z := z32) (by decide)).1 (CT.of d 0 0 (hcl n_next_0 rfl [] _ _ _ hc33.2.2 (MR.putA mr32 (k := 50) (j := M4 0 51) (z := z32) (by decide))) (Nat.le_refl _) (Nat.zero_le _) (Nat.zero_le _) (fun z34 S34 V34 hq34 => ?_))
        obtain ⟨rfl, M34, hc35, mr34, hf34⟩ := hq34
        have mf34 := MF.trans (MF.putA mf32 (k := 50) (j := M4 0 51) (z := z32) (by decide)) hf34
        refine X_aload_n dX12_readReference_98 rfl ?_
        refine X_bipush dX12_readReference_99 (by decide) (by decide) ?_
        refine X_iconst dX12_readReference_101 (by decide) ?_
        refine X_iconst dX12_readReference_102 (by decide) ?_
        refine X_invV (ci := 12) (as := [vi 10, vi (-1), vi (-1)]) (st := []) okX12_expression dX12_readReference_103 km_RX12_372 rfl rfl (Nat.le_of_ble_eq_true rfl) rfl rfl mr34.1 (CT.of d 0 0 (hcl n_expression_0 rfl [10, (-1), (-1)] _ _ _ hc35 mr34) (Nat.le_refl _) (Nat.zero_le _) (Nat.zero_le _) (fun z36 S36 V36 hq36 => ?_))
        obtain ⟨rfl, M36, hc37, mr36, hf36⟩ := hq36
        have mf36 := MF.trans mf34 hf36
        refine X_istore_n dX12_readReference_106 (by decide) rfl ?_
        refine X_aload_n dX12_readReference_107 rfl ?_
        refine X_getfield (ci := 12) (k := 48) (v := vr (a 48)) dX12_readReference_108 rfl (by decide) kf_RX12_107 (congrArg vr (MR.ar mr36 (k := 48) (by decide)).1) mr36.1 ?_
        refine X_iload_n dX12_readReference_111 rfl ?_
        refine X_iload_n dX12_readReference_112 rfl ?_
        refine X_iastore dX12_readReference_113 ((MR.ar mr36 (k := 48) (by decide)).2.1.trans (by decide)) hc37.1 (lt_eq hc37.2.1 (MR.ln mr36 (k := 48) (by decide) (by decide))) ?_
        refine X_aload_n dX12_readReference_114 rfl ?_
        refine X_getfield (ci := 12) (k := 46) (v := vi (M36 0 46)) dX12_readReference_115 rfl (by decide) kf_RX12_275 (congrArg vi (MR.in_ (MR.putA mr36 (k := 48) (j := M4 0 51) (z := z36) (by decide)) (k := 46) (by decide) (up_ne (Or.inl (by decide))))) (MR.putA mr36 (k := 48) (j := M4 0 51) (z := z36) (by decide)).1 ?_
        refine X_if_gt dX12_readReference_118 (tgt := 130) rfl (fun c38 => ?_) (fun c38 => ?_)
        · refine X_iload_n dX12_readReference_130 rfl ?_
          exact X_ret (z := z36) dX12_readReference_131 rfl (fun hv => vok_h hv) ⟨rfl, _, (hc37.2.2.1 c38), (MR.putA mr36 (k := 48) (j := M4 0 51) (z := z36) (by decide)), (MF.putA mf36 (k := 48) (j := M4 0 51) (z := z36) (by decide))⟩
        · refine X_aload_n dX12_readReference_121 rfl ?_
          refine X_bipush dX12_readReference_122 (by decide) (by decide) ?_
          refine X_invV (ci := 12) (as := [vi 91]) (st := []) okX12_isSign dX12_readReference_124 km_RX12_281 rfl rfl (Nat.le_of_ble_eq_true rfl) rfl rfl (MR.putA mr36 (k := 48) (j := M4 0 51) (z := z36) (by decide)).1 (CT.of d 0 0 (hcl n_isSign_0 rfl [91] _ _ _ (hc37.2.2.2 c38) (MR.putA mr36 (k := 48) (j := M4 0 51) (z := z36) (by decide))) (Nat.le_refl _) (Nat.zero_le _) (Nat.zero_le _) (fun z39 S39 V39 hq39 => ?_))
          obtain ⟨rfl, M39, hc40, mr39, hf39⟩ := hq39
          have mf39 := MF.trans (MF.putA mf36 (k := 48) (j := M4 0 51) (z := z36) (by decide)) hf39
          refine X_if_ne dX12_readReference_127 (tgt := 132) rfl (fun c41 => ?_) (fun c41 => ?_)
          · refine X_aload_n dX12_readReference_132 rfl ?_
            refine X_getfield (ci := 12) (k := 42) (v := vi (M39 0 42)) dX12_readReference_133 rfl (by decide) kf_RX12_363 (congrArg vi (MR.in_ mr39 (k := 42) (by decide) rfl)) mr39.1 ?_
            refine X_bipush dX12_readReference_136 (by decide) (by decide) ?_
            refine X_icmp_ne dX12_readReference_138 (tgt := 147) rfl (fun c42 => ?_) (fun c42 => ?_)
            · refine X_aload_n dX12_readReference_147 rfl ?_
              refine X_dup dX12_readReference_148 (rv_cat _) ?_
              refine X_getfield (ci := 12) (k := 42) (v := vi (M39 0 42)) dX12_readReference_149 rfl (by decide) kf_RX12_363 (congrArg vi (MR.in_ mr39 (k := 42) (by decide) rfl)) mr39.1 ?_
              refine X_iconst dX12_readReference_152 (by decide) ?_
              refine X_iaddN dX12_readReference_153 ((hc40.1 c41).1 c42).1 ((hc40.1 c41).1 c42).2.1 ?_
              refine X_putfield (ci := 12) (k := 42) (z := ((M39 0 42) + 1)) dX12_readReference_154 rfl (by decide) kf_RX12_363 (Or.inl rfl) (Or.inl rfl) rfl (fun hv => hv) mr39.1 ?_
              refine X_aload_n dX12_readReference_157 rfl ?_
              refine X_invV (ci := 12) (as := []) (st := []) okX12_next dX12_readReference_158 km_RX12_285 rfl rfl (Nat.le_of_ble_eq_true rfl) rfl rfl (MR.putI mr39 (k := 42) (z := (M39 0 42) + 1) (by decide)).1 (CT.of d 0 0 (hcl n_next_0 rfl [] _ _ _ ((hc40.1 c41).1 c42).2.2 (MR.putI mr39 (k := 42) (z := (M39 0 42) + 1) (by decide))) (Nat.le_refl _) (Nat.zero_le _) (Nat.zero_le _) (fun z43 S43 V43 hq43 => ?_))
              obtain ⟨rfl, M43, hc44, mr43, hf43⟩ := hq43
              have mf43 := MF.trans (MF.putI mf39 (k := 42) (z := (M39 0 42) + 1)) hf43
              refine X_aload_n dX12_readReference_161 rfl ?_
              refine X_invV (ci := 12) (as := []) (st := []) okX12_readSum dX12_readReference_162 km_RX12_366 rfl rfl (Nat.le_of_ble_eq_true rfl) rfl rfl mr43.1 (CT.of d 0 0 (hcl n_readSum_0 rfl [] _ _ _ hc44 mr43) (Nat.le_refl _) (Nat.zero_le _) (Nat.zero_le _) (fun z45 S45 V45 hq45 => ?_))
              obtain ⟨rfl, M45, hc46, mr45, hf45⟩ := hq45
              have mf45 := MF.trans mf43 hf45
              refine X_istore dX12_readReference_165 (by decide) rfl ?_
              refine X_aload_n dX12_readReference_167 rfl ?_
              refine X_bipush dX12_readReference_168 (by decide) (by decide) ?_
              refine X_invV (ci := 12) (as := [vi 93]) (st := []) okX12_sign dX12_readReference_170 km_RX12_318 rfl rfl (Nat.le_of_ble_eq_true rfl) rfl rfl mr45.1 (CT.of d 0 0 (hcl n_sign_0 rfl [93] _ _ _ hc46 mr45) (Nat.le_refl _) (Nat.zero_le _) (Nat.zero_le _) (fun z47 S47 V47 hq47 => ?_))
              obtain ⟨rfl, M47, hc48, mr47, hf47⟩ := hq47
              have mf47 := MF.trans mf45 hf47
              refine X_aload_n dX12_readReference_173 rfl ?_
              refine X_dup dX12_readReference_174 (rv_cat _) ?_
              refine X_getfield (ci := 12) (k := 42) (v := vi (M47 0 42)) dX12_readReference_175 rfl (by decide) kf_RX12_363 (congrArg vi (MR.in_ mr47 (k := 42) (by decide) rfl)) mr47.1 ?_
              refine X_iconst dX12_readReference_178 (by decide) ?_
              refine X_isubN dX12_readReference_179 hc48.1 hc48.2.1 ?_
              refine X_putfield (ci := 12) (k := 42) (z := ((M47 0 42) - 1)) dX12_readReference_180 rfl (by decide) kf_RX12_363 (Or.inl rfl) (Or.inl rfl) rfl (fun hv => hv) mr47.1 ?_
              refine X_aload_n dX12_readReference_183 rfl ?_
              refine X_getfield (ci := 12) (k := 46) (v := vi (M47 0 46)) dX12_readReference_184 rfl (by decide) kf_RX12_275 (congrArg vi (MR.in_ (MR.putI mr47 (k := 42) (z := (M47 0 42) - 1) (by decide)) (k := 46) (by decide) (up_ne (Or.inr (by decide))))) (MR.putI mr47 (k := 42) (z := (M47 0 42) - 1) (by decide)).1 ?_
              refine X_if_le dX12_readReference_187 (tgt := 192) rfl (fun c49 => ?_) (fun c49 => ?_)
              · refine X_aload_n dX12_readReference_192 rfl ?_
                refine X_getfield (ci := 12) (k := 35) (v := vr (a 35)) dX12_readReference_193 rfl (by decide) kf_RX12_92 (congrArg vr (MR.ar (MR.putI mr47 (k := 42) (z := (M47 0 42) - 1) (by decide)) (k := 35) (by decide)).1) (MR.putI mr47 (k := 42) (z := (M47 0 42) - 1) (by decide)).1 ?_
                refine X_iload_n dX12_readReference_196 rfl ?_
                refine X_bipush dX12_readReference_197 (by decide) (by decide) ?_
                refine X_iastore dX12_readReference_199 ((MR.ar (MR.putI mr47 (k := 42) (z := (M47 0 42) - 1) (by decide)) (k := 35) (by decide)).2.1.trans (by decide)) (hc48.2.2.1 c49).1 (lt_eq (hc48.2.2.1 c49).2.1 (MR.ln (MR.putI mr47 (k := 42) (z := (M47 0 42) - 1) (by decide)) (k := 35) (by decide) (by decide))) ?_
                refine X_aload_n dX12_readReference_200 rfl ?_
                refine X_getfield (ci := 12) (k := 37) (v := vr (a 37)) dX12_readReference_201 rfl (by decide) kf_RX12_98 (congrArg vr (MR.ar (MR.putA (MR.putI mr47 (k := 42) (z := (M47 0 42) - 1) (by decide)) (k := 35) (j := z36) (z := 12) (by decide)) (k := 37) (by decide)).1) (MR.putA (MR.putI mr47 (k := 42) (z := (M47 0 42) - 1) (by decide)) (k := 35) (j := z36) (z := 12) (by decide)).1 ?_
                refine X_iload_n dX12_readReference_204 rfl ?_
                refine X_iload dX12_readReference_205 rfl ?_
                refine X_iastore dX12_readReference_207 ((MR.ar (MR.putA (MR.putI mr47 (k := 42) (z := (M47 0 42) - 1) (by decide)) (k := 35) (j := z36) (z := 12) (by decide)) (k := 37) (by decide)).2.1.trans (by decide)) (hc48.2.2.1 c49).1 (lt_eq (hc48.2.2.1 c49).2.1 (MR.ln (MR.putA (MR.putI mr47 (k := 42) (z := (M47 0 42) - 1) (by decide)) (k := 35) (j := z36) (z := 12) (by decide)) (k := 37) (by decide) (by decide))) ?_
                refine X_iload_n dX12_readReference_208 rfl ?_
                exact X_ret (z := z36) dX12_readReference_209 rfl (fun hv => vok_h hv) ⟨rfl, _, (hc48.2.2.1 c49).2.2, (MR.putA (MR.putA (MR.putI mr47 (k := 42) (z := (M47 0 42) - 1) (by decide)) (k := 35) (j := z36) (z := 12) (by decide)) (k := 37) (j := z36) (z := z45) (by decide)), (MF.putA (MF.putA (MF.putI mf47 (k := 42) (z := (M47 0 42) - 1)) (k := 35) (j := z36) (z := 12) (by decide)) (k := 37) (j := z36) (z := z45) (by decide))⟩
              · refine X_iload_n dX12_readReference_190 rfl ?_
                exact X_ret (z := z36) dX12_readReference_191 rfl (fun hv => vok_h hv) ⟨rfl, _, (hc48.2.2.2 c49), (MR.putI mr47 (k := 42) (z := (M47 0 42) - 1) (by decide)), (MF.putI mf47 (k := 42) (z := (M47 0 42) - 1))⟩
            · refine X_aload_n dX12_readReference_141 rfl ?_
              refine X_iconst dX12_readReference_142 (by decide) ?_
              refine X_invV (ci := 12) (as := [vi 5]) (st := []) okX12_fault dX12_readReference_143 km_RX12_288 rfl rfl (Nat.le_of_ble_eq_true rfl) rfl rfl mr39.1 (CT.of d 0 0 (hcl n_fault_0 rfl [5] _ _ _ ((hc40.1 c41).2 c42) mr39) (Nat.le_refl _) (Nat.zero_le _) (Nat.zero_le _) (fun z50 S50 V50 hq50 => ?_))
              obtain ⟨rfl, M50, hc51, mr50, hf50⟩ := hq50
              have mf50 := MF.trans mf39 hf50
              exact X_ret (z := z50) dX12_readReference_146 rfl (fun hv => vok_h hv) ⟨rfl, _, hc51, mr50, mf50⟩
          · refine X_iload_n dX12_readReference_130 rfl ?_
            exact X_ret (z := z36) dX12_readReference_131 rfl (fun hv => vok_h hv) ⟨rfl, _, (hc40.2 c41), mr39, mf39⟩
      · refine X_aload_n dX12_readReference_71 rfl ?_
        refine X_iconst dX12_readReference_72 (by decide) ?_
        refine X_invV (ci := 12) (as := [vi 2]) (st := []) okX12_fault dX12_readReference_73 km_RX12_288 rfl rfl (Nat.le_of_ble_eq_true rfl) rfl rfl mr29.1 (CT.of d 0 0 (hcl n_fault_0 rfl [2] _ _ _ (hc30.2 c31) mr29) (Nat.le_refl _) (Nat.zero_le _) (Nat.zero_le _) (fun z52 S52 V52 hq52 => ?_))
        obtain ⟨rfl, M52, hc53, mr52, hf52⟩ := hq52
        have mf52 := MF.trans mf29 hf52
        exact X_ret (z := z52) dX12_readReference_76 rfl (fun hv => vok_h hv) ⟨rfl, _, hc53, mr52, mf52⟩
  · refine X_aload_n dX12_readReference_7 rfl ?_
    refine X_iconst dX12_readReference_8 (by decide) ?_
    refine X_invV (ci := 12) (as := [vi 2]) (st := []) okX12_fault dX12_readReference_9 km_RX12_288 rfl rfl (Nat.le_of_ble_eq_true rfl) rfl rfl mr1.1 (CT.of d 0 0 (hcl n_fault_0 rfl [2] _ _ _ (hc2.2 c3) mr1) (Nat.le_refl _) (Nat.zero_le _) (Nat.zero_le _) (fun z54 S54 V54 hq54 => ?_))
    obtain ⟨rfl, M54, hc55, mr54, hf54⟩ := hq54
    have mf54 := MF.trans mf1 hf54
    exact X_ret (z := z54) dX12_readReference_12 rfl (fun hv => vok_h hv) ⟨rfl, _, hc55, mr54, mf54⟩
def B_settle_0 (rc : MP) (cl : MC) (Q : Int → Mem → Prop) (d : Nat) (x1 : Int) (M : Mem) : Prop := 0 ≤ x1 ∧ x1 < 3100 ∧ (0 ≤ (M 48 x1) → 0 ≤ (M 48 x1) ∧ (M 48 x1) < 31000 ∧ ((M 49 x1) ≠ (-1) → cl n_enumOf_0 [M 49 x1] M (fun z3 M3 => (z3 ≠ (-1) → -2147483648 ≤ 12 * (M3 0 9) ∧ 12 * (M3 0 9) ≤ 2147483647 ∧ 0 ≤ x1 ∧ x1 < 3100 ∧ cl n_enumOf_0 [M3 49 x1] M3 (fun z6 M6 => -2147483648 ≤ (12 * (M3 0 9)) + z6 ∧ (12 * (M3 0 9)) + z6 ≤ 2147483647 ∧ rc n_settle_79 [x1, M 48 x1, M 39 (M 48 x1), (12 * (M3 0 9)) + z6] M6)) ∧ (¬ (z3 ≠ (-1)) → rc n_settle_79 [x1, M 48 x1, M 39 (M 48 x1), (-1)] M3))) ∧ (¬ ((M 49 x1) ≠ (-1)) → rc n_settle_79 [x1, M 48 x1, M 39 (M 48 x1), M 39 (M 48 x1)] M)) ∧ (¬ (0 ≤ (M 48 x1)) → -2147483648 ≤ (-1) - (M 48 x1) ∧ (-1) - (M 48 x1) ≤ 2147483647 ∧ ((M 49 x1) ≠ (-1) → cl n_enumOf_0 [M 49 x1] M (fun z9 M9 => (z9 ≠ (-1) → -2147483648 ≤ 12 * (M9 0 9) ∧ 12 * (M9 0 9) ≤ 2147483647 ∧ 0 ≤ x1 ∧ x1 < 3100 ∧ cl n_enumOf_0 [M9 49 x1] M9 (fun z12 M12 => -2147483648 ≤ (12 * (M9 0 9)) + z12 ∧ (12 * (M9 0 9)) + z12 ≤ 2147483647 ∧ rc n_settle_79 [x1, M 48 x1, (((-1) - (M 48 x1)).tdiv 12).tdiv 3, (12 * (M9 0 9)) + z12] M12)) ∧ (¬ (z9 ≠ (-1)) → rc n_settle_79 [x1, M 48 x1, (((-1) - (M 48 x1)).tdiv 12).tdiv 3, (-1)] M9))) ∧ (¬ ((M 49 x1) ≠ (-1)) → rc n_settle_79 [x1, M 48 x1, (((-1) - (M 48 x1)).tdiv 12).tdiv 3, (((-1) - (M 48 x1)).tdiv 12).tdiv 3] M))
set_option maxRecDepth 10000 in
theorem s_settle_0 {l : Launch} {G : GT} {m : Int} {a : Int → Int} {d mc ms : Nat} {S : Sh} {Q : Int → Mem → Prop} {rc : MP} {cl : MC} {V0 V M : Mem} {x1 : Int} (hrc : RCok l G m a S V0 Q d mc ms rc) (hcl : CLok l G m a S d cl) (mr : MR m a S V M) (mf : MF m a V0 V) (hB : B_settle_0 rc cl Q d x1 M) : XJ l G bX12_settle (Qm m a S V0 Q) (d + 1) 0 [vr m, vi x1, vu, vu, vu, vu, vu, vu] [] S V mc ms := by
  unfold B_settle_0 at hB
  refine X_aload_n dX12_settle_0 rfl ?_
  refine X_getfield (ci := 12) (k := 48) (v := vr (a 48)) dX12_settle_1 rfl (by decide) kf_RX12_107 (congrArg vr (MR.ar mr (k := 48) (by decide)).1) mr.1 ?_
  refine X_iload_n dX12_settle_4 rfl ?_
  refine X_iaload dX12_settle_5 ((MR.ar mr (k := 48) (by decide)).2.1.trans (by decide)) hB.1 (lt_eq hB.2.1 (MR.ln mr (k := 48) (by decide) (by decide))) ?_
  refine X_top (v := vi (M 48 x1)) (congrArg vi (MR.el mr (k := 48) (by decide) rfl)) ?_
  refine X_istore_n dX12_settle_6 (by decide) rfl ?_
  refine X_iload_n dX12_settle_7 rfl ?_
  refine X_if_ge dX12_settle_8 (tgt := 22) rfl (fun c1 => ?_) (fun c1 => ?_)
  · refine X_aload_n dX12_settle_22 rfl ?_
    refine X_getfield (ci := 12) (k := 39) (v := vr (a 39)) dX12_settle_23 rfl (by decide) kf_RX12_104 (congrArg vr (MR.ar mr (k := 39) (by decide)).1) mr.1 ?_
    refine X_iload_n dX12_settle_26 rfl ?_
    refine X_iaload dX12_settle_27 ((MR.ar mr (k := 39) (by decide)).2.1.trans (by decide)) (hB.2.2.1 c1).1 (lt_eq (hB.2.2.1 c1).2.1 (MR.ln mr (k := 39) (by decide) (by decide))) ?_
    refine X_top (v := vi (M 39 (M 48 x1))) (congrArg vi (MR.el mr (k := 39) (by decide) rfl)) ?_
    refine X_istore_n dX12_settle_28 (by decide) rfl ?_
    refine X_aload_n dX12_settle_29 rfl ?_
    refine X_getfield (ci := 12) (k := 49) (v := vr (a 49)) dX12_settle_30 rfl (by decide) kf_RX12_110 (congrArg vr (MR.ar mr (k := 49) (by decide)).1) mr.1 ?_
    refine X_iload_n dX12_settle_33 rfl ?_
    refine X_iaload dX12_settle_34 ((MR.ar mr (k := 49) (by decide)).2.1.trans (by decide)) hB.1 (lt_eq hB.2.1 (MR.ln mr (k := 49) (by decide) (by decide))) ?_
    refine X_top (v := vi (M 49 x1)) (congrArg vi (MR.el mr (k := 49) (by decide) rfl)) ?_
    refine X_iconst dX12_settle_35 (by decide) ?_
    refine X_icmp_ne dX12_settle_36 (tgt := 43) rfl (fun c2 => ?_) (fun c2 => ?_)
    · refine X_aload_n dX12_settle_43 rfl ?_
      refine X_aload_n dX12_settle_44 rfl ?_
      refine X_getfield (ci := 12) (k := 49) (v := vr (a 49)) dX12_settle_45 rfl (by decide) kf_RX12_110 (congrArg vr (MR.ar mr (k := 49) (by decide)).1) mr.1 ?_
      refine X_iload_n dX12_settle_48 rfl ?_
      refine X_iaload dX12_settle_49 ((MR.ar mr (k := 49) (by decide)).2.1.trans (by decide)) hB.1 (lt_eq hB.2.1 (MR.ln mr (k := 49) (by decide) (by decide))) ?_
      refine X_top (v := vi (M 49 x1)) (congrArg vi (MR.el mr (k := 49) (by decide) rfl)) ?_
      refine X_invV (ci := 12) (as := [vi (M 49 x1)]) (st := []) okX12_enumOf dX12_settle_50 km_RX12_311 rfl rfl (Nat.le_of_ble_eq_true rfl) rfl rfl mr.1 (CT.of d 0 0 (hcl n_enumOf_0 rfl [M 49 x1] _ _ _ ((hB.2.2.1 c1).2.2.1 c2) mr) (Nat.le_refl _) (Nat.zero_le _) (Nat.zero_le _) (fun z3 S3 V3 hq3 => ?_))
      obtain ⟨rfl, M3, hc4, mr3, hf3⟩ := hq3
      have mf3 := MF.trans mf hf3
      refine X_iconst dX12_settle_53 (by decide) ?_
      refine X_icmp_ne dX12_settle_54 (tgt := 61) rfl (fun c5 => ?_) (fun c5 => ?_)
      · refine X_bipush dX12_settle_61 (by decide) (by decide) ?_
        refine X_aload_n dX12_settle_63 rfl ?_
        refine X_getfield (ci := 12) (k := 9) (v := vi (M3 0 9)) dX12_settle_64 rfl (by decide) kf_RX12_263 (congrArg vi (MR.in_ mr3 (k := 9) (by decide) rfl)) mr3.1 ?_
        refine X_imulN dX12_settle_67 (hc4.1 c5).1 (hc4.1 c5).2.1 ?_
        refine X_aload_n dX12_settle_68 rfl ?_
        refine X_aload_n dX12_settle_69 rfl ?_
        refine X_getfield (ci := 12) (k := 49) (v := vr (a 49)) dX12_settle_70 rfl (by decide) kf_RX12_110 (congrArg vr (MR.ar mr3 (k := 49) (by decide)).1) mr3.1 ?_
        refine X_iload_n dX12_settle_73 rfl ?_
        refine X_iaload dX12_settle_74 ((MR.ar mr3 (k := 49) (by decide)).2.1.trans (by decide)) (hc4.1 c5).2.2.1 (lt_eq (hc4.1 c5).2.2.2.1 (MR.ln mr3 (k := 49) (by decide) (by decide))) ?_
        refine X_top (v := vi (M3 49 x1)) (congrArg vi (MR.el mr3 (k := 49) (by decide) rfl)) ?_
        refine X_invV (ci := 12) (as := [vi (M3 49 x1)]) (st := [vi (12 * (M3 0 9))]) okX12_enumOf dX12_settle_75 km_RX12_311 rfl rfl (Nat.le_of_ble_eq_true rfl) rfl rfl mr3.1 (CT.of d 0 0 (hcl n_enumOf_0 rfl [M3 49 x1] _ _ _ (hc4.1 c5).2.2.2.2 mr3) (Nat.le_refl _) (Nat.zero_le _) (Nat.zero_le _) (fun z6 S6 V6 hq6 => ?_))
        obtain ⟨rfl, M6, hc7, mr6, hf6⟩ := hq6
        have mf6 := MF.trans mf3 hf6
        refine X_iaddN dX12_settle_78 hc7.1 hc7.2.1 ?_
        exact hrc n_settle_79 [x1, M 48 x1, M 39 (M 48 x1), (12 * (M3 0 9)) + z6] _ _ hc7.2.2 mr6 mf6
      · refine X_iconst dX12_settle_57 (by decide) ?_
        refine X_goto dX12_settle_58 (tgt := 79) rfl ?_
        exact hrc n_settle_79 [x1, M 48 x1, M 39 (M 48 x1), (-1)] _ _ (hc4.2 c5) mr3 mf3
    · refine X_iload_n dX12_settle_39 rfl ?_
      refine X_goto dX12_settle_40 (tgt := 79) rfl ?_
      exact hrc n_settle_79 [x1, M 48 x1, M 39 (M 48 x1), M 39 (M 48 x1)] _ _ ((hB.2.2.1 c1).2.2.2 c2) mr mf
  · refine X_iconst dX12_settle_11 (by decide) ?_
    refine X_iload_n dX12_settle_12 rfl ?_
    refine X_isubN dX12_settle_13 (hB.2.2.2 c1).1 (hB.2.2.2 c1).2.1 ?_
    refine X_bipush dX12_settle_14 (by decide) (by decide) ?_
    refine X_idivP dX12_settle_16 (by decide) ?_
    refine X_iconst dX12_settle_17 (by decide) ?_
    refine X_idivP dX12_settle_18 (by decide) ?_
    refine X_goto dX12_settle_19 (tgt := 28) rfl ?_
    refine X_istore_n dX12_settle_28 (by decide) rfl ?_
    refine X_aload_n dX12_settle_29 rfl ?_
    refine X_getfield (ci := 12) (k := 49) (v := vr (a 49)) dX12_settle_30 rfl (by decide) kf_RX12_110 (congrArg vr (MR.ar mr (k := 49) (by decide)).1) mr.1 ?_
    refine X_iload_n dX12_settle_33 rfl ?_
    refine X_iaload dX12_settle_34 ((MR.ar mr (k := 49) (by decide)).2.1.trans (by decide)) hB.1 (lt_eq hB.2.1 (MR.ln mr (k := 49) (by decide) (by decide))) ?_
    refine X_top (v := vi (M 49 x1)) (congrArg vi (MR.el mr (k := 49) (by decide) rfl)) ?_
    refine X_iconst dX12_settle_35 (by decide) ?_
    refine X_icmp_ne dX12_settle_36 (tgt := 43) rfl (fun c8 => ?_) (fun c8 => ?_)
    · refine X_aload_n dX12_settle_43 rfl ?_
      refine X_aload_n dX12_settle_44 rfl ?_
      refine X_getfield (ci := 12) (k := 49) (v := vr (a 49)) dX12_settle_45 rfl (by decide) kf_RX12_110 (congrArg vr (MR.ar mr (k := 49) (by decide)).1) mr.1 ?_
      refine X_iload_n dX12_settle_48 rfl ?_
      refine X_iaload dX12_settle_49 ((MR.ar mr (k := 49) (by decide)).2.1.trans (by decide)) hB.1 (lt_eq hB.2.1 (MR.ln mr (k := 49) (by decide) (by decide))) ?_
      refine X_top (v := vi (M 49 x1)) (congrArg vi (MR.el mr (k := 49) (by decide) rfl)) ?_
      refine X_invV (ci := 12) (as := [vi (M 49 x1)]) (st := []) okX12_enumOf dX12_settle_50 km_RX12_311 rfl rfl (Nat.le_of_ble_eq_true rfl) rfl rfl mr.1 (CT.of d 0 0 (hcl n_enumOf_0 rfl [M 49 x1] _ _ _ ((hB.2.2.2 c1).2.2.1 c8) mr) (Nat.le_refl _) (Nat.zero_le _) (Nat.zero_le _) (fun z9 S9 V9 hq9 => ?_))
      obtain ⟨rfl, M9, hc10, mr9, hf9⟩ := hq9
      have mf9 := MF.trans mf hf9
      refine X_iconst dX12_settle_53 (by decide) ?_
      refine X_icmp_ne dX12_settle_54 (tgt := 61) rfl (fun c11 => ?_) (fun c11 => ?_)
      · refine X_bipush dX12_settle_61 (by decide) (by decide) ?_
        refine X_aload_n dX12_settle_63 rfl ?_
        refine X_getfield (ci := 12) (k := 9) (v := vi (M9 0 9)) dX12_settle_64 rfl (by decide) kf_RX12_263 (congrArg vi (MR.in_ mr9 (k := 9) (by decide) rfl)) mr9.1 ?_
        refine X_imulN dX12_settle_67 (hc10.1 c11).1 (hc10.1 c11).2.1 ?_
        refine X_aload_n dX12_settle_68 rfl ?_
        refine X_aload_n dX12_settle_69 rfl ?_
        refine X_getfield (ci := 12) (k := 49) (v := vr (a 49)) dX12_settle_70 rfl (by decide) kf_RX12_110 (congrArg vr (MR.ar mr9 (k := 49) (by decide)).1) mr9.1 ?_
        refine X_iload_n dX12_settle_73 rfl ?_
        refine X_iaload dX12_settle_74 ((MR.ar mr9 (k := 49) (by decide)).2.1.trans (by decide)) (hc10.1 c11).2.2.1 (lt_eq (hc10.1 c11).2.2.2.1 (MR.ln mr9 (k := 49) (by decide) (by decide))) ?_
        refine X_top (v := vi (M9 49 x1)) (congrArg vi (MR.el mr9 (k := 49) (by decide) rfl)) ?_
        refine X_invV (ci := 12) (as := [vi (M9 49 x1)]) (st := [vi (12 * (M9 0 9))]) okX12_enumOf dX12_settle_75 km_RX12_311 rfl rfl (Nat.le_of_ble_eq_true rfl) rfl rfl mr9.1 (CT.of d 0 0 (hcl n_enumOf_0 rfl [M9 49 x1] _ _ _ (hc10.1 c11).2.2.2.2 mr9) (Nat.le_refl _) (Nat.zero_le _) (Nat.zero_le _) (fun z12 S12 V12 hq12 => ?_))
        obtain ⟨rfl, M12, hc13, mr12, hf12⟩ := hq12
        have mf12 := MF.trans mf9 hf12
        refine X_iaddN dX12_settle_78 hc13.1 hc13.2.1 ?_
        exact hrc n_settle_79 [x1, M 48 x1, (((-1) - (M 48 x1)).tdiv 12).tdiv 3, (12 * (M9 0 9)) + z12] _ _ hc13.2.2 mr12 mf12
      · refine X_iconst dX12_settle_57 (by decide) ?_
        refine X_goto dX12_settle_58 (tgt := 79) rfl ?_
        exact hrc n_settle_79 [x1, M 48 x1, (((-1) - (M 48 x1)).tdiv 12).tdiv 3, (-1)] _ _ (hc10.2 c11) mr9 mf9
    · refine X_iload_n dX12_settle_39 rfl ?_
      refine X_goto dX12_settle_40 (tgt := 79) rfl ?_
      exact hrc n_settle_79 [x1, M 48 x1, (((-1) - (M 48 x1)).tdiv 12).tdiv 3, (((-1) - (M 48 x1)).tdiv 12).tdiv 3] _ _ ((hB.2.2.2 c1).2.2.2 c8) mr mf
def B_settle_79 (rc : MP) (cl : MC) (Q : Int → Mem → Prop) (d : Nat) (x1 x2 x3 y0 : Int) (M : Mem) : Prop := (y0 ≠ (-1) → -2147483648 ≤ 24 * y0 ∧ 24 * y0 ≤ 2147483647 ∧ 0 ≤ y0 ∧ y0 < 120 ∧ 0 ≤ x1 ∧ x1 < 3100 ∧ cl n_among_0 [20, 24 * y0, M 14 y0, M 50 x1] M (fun z2 M2 => (0 ≤ x2 → 0 ≤ x2 ∧ x2 < 31000 ∧ -2147483648 ≤ 4 * y0 ∧ 4 * y0 ≤ 2147483647 ∧ 0 ≤ y0 ∧ y0 < 120 ∧ 0 ≤ x1 ∧ x1 < 3100 ∧ cl n_among_0 [23, 4 * y0, M2 15 y0, M2 50 x1] (up M2 39 x2 x3) (fun z5 M5 => -2147483648 ≤ 4 * y0 ∧ 4 * y0 ≤ 2147483647 ∧ 0 ≤ y0 ∧ y0 < 120 ∧ 0 ≤ x1 ∧ x1 < 3100 ∧ cl n_among_0 [27, 4 * y0, M5 17 y0, M5 50 x1] M5 (fun z7 M7 => 0 ≤ x2 ∧ x2 < 31000 ∧ ((M7 35 x2) ≠ 12 → (z2 ≠ (-1) → rc n_settle_266 [x1, x2, x3, y0, z2, z5, z7] M7) ∧ (¬ (z2 ≠ (-1)) → (z7 ≠ (-1) → rc n_settle_266 [x1, x2, x3, y0, z2, z5, z7] M7) ∧ (¬ (z7 ≠ (-1)) → 0 ≤ x1 ∧ x1 < 3100 ∧ cl n_lacks_0 [M7 50 x1] M7 (fun z12 M12 => Q 0 M12)))) ∧ (¬ ((M7 35 x2) ≠ 12) → (z5 ≠ (-1) → rc n_settle_266 [x1, x2, x3, y0, z2, z5, z7] M7) ∧ (¬ (z5 ≠ (-1)) → 0 ≤ x1 ∧ x1 < 3100 ∧ cl n_lacks_0 [M7 50 x1] M7 (fun z15 M15 => Q 0 M15)))))) ∧ (¬ (0 ≤ x2) → (z2 ≠ (-1) → -2147483648 ≤ (-1) - x2 ∧ (-1) - x2 ≤ 2147483647 ∧ 0 ≤ ((-1) - x2) ∧ ((-1) - x2) < 4320 ∧ Q 0 (up M2 32 ((-1) - x2) z2)) ∧ (¬ (z2 ≠ (-1)) → 0 ≤ x1 ∧ x1 < 3100 ∧ cl n_lacks_0 [M2 50 x1] M2 (fun z18 M18 => Q 0 M18))))) ∧ (¬ (y0 ≠ (-1)) → 0 ≤ x1 ∧ x1 < 3100 ∧ cl n_lacks_0 [M 49 x1] M (fun z20 M20 => Q 0 M20))
set_option maxRecDepth 10000 in
theorem s_settle_79 {l : Launch} {G : GT} {m : Int} {a : Int → Int} {d mc ms : Nat} {S : Sh} {Q : Int → Mem → Prop} {rc : MP} {cl : MC} {V0 V M : Mem} {x1 x2 x3 y0 : Int} (hrc : RCok l G m a S V0 Q d mc ms rc) (hcl : CLok l G m a S d cl) (mr : MR m a S V M) (mf : MF m a V0 V) (hB : B_settle_79 rc cl Q d x1 x2 x3 y0 M) : XJ l G bX12_settle (Qm m a S V0 Q) (d + 1) 79 [vr m, vi x1, vi x2, vi x3, vu, vu, vu, vu] [vi y0] S V mc ms := by
  unfold B_settle_79 at hB
  refine X_istore dX12_settle_79 (by decide) rfl ?_
  refine X_iload dX12_settle_81 rfl ?_
  refine X_iconst dX12_settle_83 (by decide) ?_
  refine X_icmp_ne dX12_settle_84 (tgt := 98) rfl (fun c1 => ?_) (fun c1 => ?_)
  · refine X_aload_n dX12_settle_98 rfl ?_
    refine X_aload_n dX12_settle_99 rfl ?_
    refine X_getfield (ci := 12) (k := 20) (v := vr (a 20)) dX12_settle_100 rfl (by decide) kf_RX12_47 (congrArg vr (MR.ar mr (k := 20) (by decide)).1) mr.1 ?_
    refine X_bipush dX12_settle_103 (by decide) (by decide) ?_
    refine X_iload dX12_settle_105 rfl ?_
    refine X_imulN dX12_settle_107 (hB.1 c1).1 (hB.1 c1).2.1 ?_
    refine X_aload_n dX12_settle_108 rfl ?_
    refine X_getfield (ci := 12) (k := 14) (v := vr (a 14)) dX12_settle_109 rfl (by decide) kf_RX12_29 (congrArg vr (MR.ar mr (k := 14) (by decide)).1) mr.1 ?_
    refine X_iload dX12_settle_112 rfl ?_
    refine X_iaload dX12_settle_114 ((MR.ar mr (k := 14) (by decide)).2.1.trans (by decide)) (hB.1 c1).2.2.1 (lt_eq (hB.1 c1).2.2.2.1 (MR.ln mr (k := 14) (by decide) (by decide))) ?_
    refine X_top (v := vi (M 14 y0)) (congrArg vi (MR.el mr (k := 14) (by decide) rfl)) ?_
    refine X_aload_n dX12_settle_115 rfl ?_
    refine X_getfield (ci := 12) (k := 50) (v := vr (a 50)) dX12_settle_116 rfl (by decide) kf_RX12_113 (congrArg vr (MR.ar mr (k := 50) (by decide)).1) mr.1 ?_
    refine X_iload_n dX12_settle_119 rfl ?_
    refine X_iaload dX12_settle_120 ((MR.ar mr (k := 50) (by decide)).2.1.trans (by decide)) (hB.1 c1).2.2.2.2.1 (lt_eq (hB.1 c1).2.2.2.2.2.1 (MR.ln mr (k := 50) (by decide) (by decide))) ?_
    refine X_top (v := vi (M 50 x1)) (congrArg vi (MR.el mr (k := 50) (by decide) rfl)) ?_
    refine X_invV (ci := 12) (as := [vr (a 20), vi (24 * y0), vi (M 14 y0), vi (M 50 x1)]) (st := []) okX12_among dX12_settle_121 km_RX12_388 rfl rfl (Nat.le_of_ble_eq_true rfl) rfl rfl mr.1 (CT.of d 0 0 (hcl n_among_0 rfl [20, 24 * y0, M 14 y0, M 50 x1] _ _ _ (hB.1 c1).2.2.2.2.2.2 mr) (Nat.le_refl _) (Nat.zero_le _) (Nat.zero_le _) (fun z2 S2 V2 hq2 => ?_))
    obtain ⟨rfl, M2, hc3, mr2, hf2⟩ := hq2
    have mf2 := MF.trans mf hf2
    refine X_istore dX12_settle_124 (by decide) rfl ?_
    refine X_iload_n dX12_settle_126 rfl ?_
    refine X_if_ge dX12_settle_127 (tgt := 160) rfl (fun c4 => ?_) (fun c4 => ?_)
    · refine X_aload_n dX12_settle_160 rfl ?_
      refine X_getfield (ci := 12) (k := 39) (v := vr (a 39)) dX12_settle_161 rfl (by decide) kf_RX12_104 (congrArg vr (MR.ar mr2 (k := 39) (by decide)).1) mr2.1 ?_
      refine X_iload_n dX12_settle_164 rfl ?_
      refine X_iload_n dX12_settle_165 rfl ?_
      refine X_iastore dX12_settle_166 ((MR.ar mr2 (k := 39) (by decide)).2.1.trans (by decide)) (hc3.1 c4).1 (lt_eq (hc3.1 c4).2.1 (MR.ln mr2 (k := 39) (by decide) (by decide))) ?_
      refine X_aload_n dX12_settle_167 rfl ?_
      refine X_aload_n dX12_settle_168 rfl ?_
      refine X_getfield (ci := 12) (k := 23) (v := vr (a 23)) dX12_settle_169 rfl (by decide) kf_RX12_56 (congrArg vr (MR.ar (MR.putA mr2 (k := 39) (j := x2) (z := x3) (by decide)) (k := 23) (by decide)).1) (MR.putA mr2 (k := 39) (j := x2) (z := x3) (by decide)).1 ?_
      refine X_iconst dX12_settle_172 (by decide) ?_
      refine X_iload dX12_settle_173 rfl ?_
      refine X_imulN dX12_settle_175 (hc3.1 c4).2.2.1 (hc3.1 c4).2.2.2.1 ?_
      refine X_aload_n dX12_settle_176 rfl ?_
      refine X_getfield (ci := 12) (k := 15) (v := vr (a 15)) dX12_settle_177 rfl (by decide) kf_RX12_32 (congrArg vr (MR.ar (MR.putA mr2 (k := 39) (j := x2) (z := x3) (by decide)) (k := 15) (by decide)).1) (MR.putA mr2 (k := 39) (j := x2) (z := x3) (by decide)).1 ?_
      refine X_iload dX12_settle_180 rfl ?_
      refine X_iaload dX12_settle_182 ((MR.ar (MR.putA mr2 (k := 39) (j := x2) (z := x3) (by decide)) (k := 15) (by decide)).2.1.trans (by decide)) (hc3.1 c4).2.2.2.2.1 (lt_eq (hc3.1 c4).2.2.2.2.2.1 (MR.ln (MR.putA mr2 (k := 39) (j := x2) (z := x3) (by decide)) (k := 15) (by decide) (by decide))) ?_
      refine X_top (v := vi (M2 15 y0)) (congrArg vi (MR.el (MR.putA mr2 (k := 39) (j := x2) (z := x3) (by decide)) (k := 15) (by decide) (up_ne (Or.inl (by decide))))) ?_
      refine X_aload_n dX12_settle_183 rfl ?_
      refine X_getfield (ci := 12) (k := 50) (v := vr (a 50)) dX12_settle_184 rfl (by decide) kf_RX12_113 (congrArg vr (MR.ar (MR.putA mr2 (k := 39) (j := x2) (z := x3) (by decide)) (k := 50) (by decide)).1) (MR.putA mr2 (k := 39) (j := x2) (z := x3) (by decide)).1 ?_
      refine X_iload_n dX12_settle_187 rfl ?_
      refine X_iaload dX12_settle_188 ((MR.ar (MR.putA mr2 (k := 39) (j := x2) (z := x3) (by decide)) (k := 50) (by decide)).2.1.trans (by decide)) (hc3.1 c4).2.2.2.2.2.2.1 (lt_eq (hc3.1 c4).2.2.2.2.2.2.2.1 (MR.ln (MR.putA mr2 (k := 39) (j := x2) (z := x3) (by decide)) (k := 50) (by decide) (by decide))) ?_
      refine X_top (v := vi (M2 50 x1)) (congrArg vi (MR.el (MR.putA mr2 (k := 39) (j := x2) (z := x3) (by decide)) (k := 50) (by decide) (up_ne (Or.inl (by decide))))) ?_
      refine X_invV (ci := 12) (as := [vr (a 23), vi (4 * y0), vi (M2 15 y0), vi (M2 50 x1)]) (st := []) okX12_among dX12_settle_189 km_RX12_388 rfl rfl (Nat.le_of_ble_eq_true rfl) rfl rfl (MR.putA mr2 (k := 39) (j := x2) (z := x3) (by decide)).1 (CT.of d 0 0 (hcl n_among_0 rfl [23, 4 * y0, M2 15 y0, M2 50 x1] _ _ _ (hc3.1 c4).2.2.2.2.2.2.2.2 (MR.putA mr2 (k := 39) (j := x2) (z := x3) (by decide))) (Nat.le_refl _) (Nat.zero_le _) (Nat.zero_le _) (fun z5 S5 V5 hq5 => ?_))
      obtain ⟨rfl, M5, hc6, mr5, hf5⟩ := hq5
      have mf5 := MF.trans (MF.putA mf2 (k := 39) (j := x2) (z := x3) (by decide)) hf5
      refine X_istore dX12_settle_192 (by decide) rfl ?_
      refine X_aload_n dX12_settle_194 rfl ?_
      refine X_aload_n dX12_settle_195 rfl ?_
      refine X_getfield (ci := 12) (k := 27) (v := vr (a 27)) dX12_settle_196 rfl (by decide) kf_RX12_68 (congrArg vr (MR.ar mr5 (k := 27) (by decide)).1) mr5.1 ?_
      refine X_iconst dX12_settle_199 (by decide) ?_
      refine X_iload dX12_settle_200 rfl ?_
      refine X_imulN dX12_settle_202 hc6.1 hc6.2.1 ?_
      refine X_aload_n dX12_settle_203 rfl ?_
      refine X_getfield (ci := 12) (k := 17) (v := vr (a 17)) dX12_settle_204 rfl (by decide) kf_RX12_38 (congrArg vr (MR.ar mr5 (k := 17) (by decide)).1) mr5.1 ?_
      refine X_iload dX12_settle_207 rfl ?_
      refine X_iaload dX12_settle_209 ((MR.ar mr5 (k := 17) (by decide)).2.1.trans (by decide)) hc6.2.2.1 (lt_eq hc6.2.2.2.1 (MR.ln mr5 (k := 17) (by decide) (by decide))) ?_
      refine X_top (v := vi (M5 17 y0)) (congrArg vi (MR.el mr5 (k := 17) (by decide) rfl)) ?_
      refine X_aload_n dX12_settle_210 rfl ?_
      refine X_getfield (ci := 12) (k := 50) (v := vr (a 50)) dX12_settle_211 rfl (by decide) kf_RX12_113 (congrArg vr (MR.ar mr5 (k := 50) (by decide)).1) mr5.1 ?_
      refine X_iload_n dX12_settle_214 rfl ?_
      refine X_iaload dX12_settle_215 ((MR.ar mr5 (k := 50) (by decide)).2.1.trans (by decide)) hc6.2.2.2.2.1 (lt_eq hc6.2.2.2.2.2.1 (MR.ln mr5 (k := 50) (by decide) (by decide))) ?_
      refine X_top (v := vi (M5 50 x1)) (congrArg vi (MR.el mr5 (k := 50) (by decide) rfl)) ?_
      refine X_invV (ci := 12) (as := [vr (a 27), vi (4 * y0), vi (M5 17 y0), vi (M5 50 x1)]) (st := []) okX12_among dX12_settle_216 km_RX12_388 rfl rfl (Nat.le_of_ble_eq_true rfl) rfl rfl mr5.1 (CT.of d 0 0 (hcl n_among_0 rfl [27, 4 * y0, M5 17 y0, M5 50 x1] _ _ _ hc6.2.2.2.2.2.2 mr5) (Nat.le_refl _) (Nat.zero_le _) (Nat.zero_le _) (fun z7 S7 V7 hq7 => ?_))
      obtain ⟨rfl, M7, hc8, mr7, hf7⟩ := hq7
      have mf7 := MF.trans mf5 hf7
      refine X_istore dX12_settle_219 (by decide) rfl ?_
      refine X_aload_n dX12_settle_221 rfl ?_
      refine X_getfield (ci := 12) (k := 35) (v := vr (a 35)) dX12_settle_222 rfl (by decide) kf_RX12_92 (congrArg vr (MR.ar mr7 (k := 35) (by decide)).1) mr7.1 ?_
      refine X_iload_n dX12_settle_225 rfl ?_
      refine X_iaload dX12_settle_226 ((MR.ar mr7 (k := 35) (by decide)).2.1.trans (by decide)) hc8.1 (lt_eq hc8.2.1 (MR.ln mr7 (k := 35) (by decide) (by decide))) ?_
      refine X_top (v := vi (M7 35 x2)) (congrArg vi (MR.el mr7 (k := 35) (by decide) rfl)) ?_
      refine X_bipush dX12_settle_227 (by decide) (by decide) ?_
      refine X_icmp_ne dX12_settle_229 (tgt := 241) rfl (fun c9 => ?_) (fun c9 => ?_)
      · refine X_iload dX12_settle_241 rfl ?_
        refine X_iconst dX12_settle_243 (by decide) ?_
        refine X_icmp_ne dX12_settle_244 (tgt := 266) rfl (fun c10 => ?_) (fun c10 => ?_)
        · exact hrc n_settle_266 [x1, x2, x3, y0, z2, z5, z7] _ _ ((hc8.2.2.1 c9).1 c10) mr7 mf7
        · refine X_iload dX12_settle_247 rfl ?_
          refine X_iconst dX12_settle_249 (by decide) ?_
          refine X_icmp_ne dX12_settle_250 (tgt := 266) rfl (fun c11 => ?_) (fun c11 => ?_)
          · exact hrc n_settle_266 [x1, x2, x3, y0, z2, z5, z7] _ _ (((hc8.2.2.1 c9).2 c10).1 c11) mr7 mf7
          · refine X_aload_n dX12_settle_253 rfl ?_
            refine X_aload_n dX12_settle_254 rfl ?_
            refine X_getfield (ci := 12) (k := 50) (v := vr (a 50)) dX12_settle_255 rfl (by decide) kf_RX12_113 (congrArg vr (MR.ar mr7 (k := 50) (by decide)).1) mr7.1 ?_
            refine X_iload_n dX12_settle_258 rfl ?_
            refine X_iaload dX12_settle_259 ((MR.ar mr7 (k := 50) (by decide)).2.1.trans (by decide)) (((hc8.2.2.1 c9).2 c10).2 c11).1 (lt_eq (((hc8.2.2.1 c9).2 c10).2 c11).2.1 (MR.ln mr7 (k := 50) (by decide) (by decide))) ?_
            refine X_top (v := vi (M7 50 x1)) (congrArg vi (MR.el mr7 (k := 50) (by decide) rfl)) ?_
            refine X_invV (ci := 12) (as := [vi (M7 50 x1)]) (st := []) okX12_lacks dX12_settle_260 km_RX12_385 rfl rfl (Nat.le_of_ble_eq_true rfl) rfl rfl mr7.1 (CT.of d 0 0 (hcl n_lacks_0 rfl [M7 50 x1] _ _ _ (((hc8.2.2.1 c9).2 c10).2 c11).2.2 mr7) (Nat.le_refl _) (Nat.zero_le _) (Nat.zero_le _) (fun z12 S12 V12 hq12 => ?_))
            obtain ⟨rfl, M12, hc13, mr12, hf12⟩ := hq12
            have mf12 := MF.trans mf7 hf12
            refine X_goto dX12_settle_263 (tgt := 342) rfl ?_
            exact X_ret (z := 0) dX12_settle_342 rfl (fun _ => trivial) ⟨rfl, _, hc13, mr12, mf12⟩
      · refine X_iload dX12_settle_232 rfl ?_
        refine X_iconst dX12_settle_234 (by decide) ?_
        refine X_icmp_ne dX12_settle_235 (tgt := 266) rfl (fun c14 => ?_) (fun c14 => ?_)
        · exact hrc n_settle_266 [x1, x2, x3, y0, z2, z5, z7] _ _ ((hc8.2.2.2 c9).1 c14) mr7 mf7
        · refine X_goto dX12_settle_238 (tgt := 253) rfl ?_
          refine X_aload_n dX12_settle_253 rfl ?_
          refine X_aload_n dX12_settle_254 rfl ?_
          refine X_getfield (ci := 12) (k := 50) (v := vr (a 50)) dX12_settle_255 rfl (by decide) kf_RX12_113 (congrArg vr (MR.ar mr7 (k := 50) (by decide)).1) mr7.1 ?_
          refine X_iload_n dX12_settle_258 rfl ?_
          refine X_iaload dX12_settle_259 ((MR.ar mr7 (k := 50) (by decide)).2.1.trans (by decide)) ((hc8.2.2.2 c9).2 c14).1 (lt_eq ((hc8.2.2.2 c9).2 c14).2.1 (MR.ln mr7 (k := 50) (by decide) (by decide))) ?_
          refine X_top (v := vi (M7 50 x1)) (congrArg vi (MR.el mr7 (k := 50) (by decide) rfl)) ?_
          refine X_invV (ci := 12) (as := [vi (M7 50 x1)]) (st := []) okX12_lacks dX12_settle_260 km_RX12_385 rfl rfl (Nat.le_of_ble_eq_true rfl) rfl rfl mr7.1 (CT.of d 0 0 (hcl n_lacks_0 rfl [M7 50 x1] _ _ _ ((hc8.2.2.2 c9).2 c14).2.2 mr7) (Nat.le_refl _) (Nat.zero_le _) (Nat.zero_le _) (fun z15 S15 V15 hq15 => ?_))
          obtain ⟨rfl, M15, hc16, mr15, hf15⟩ := hq15
          have mf15 := MF.trans mf7 hf15
          refine X_goto dX12_settle_263 (tgt := 342) rfl ?_
          exact X_ret (z := 0) dX12_settle_342 rfl (fun _ => trivial) ⟨rfl, _, hc16, mr15, mf15⟩
    · refine X_iload dX12_settle_130 rfl ?_
      refine X_iconst dX12_settle_132 (by decide) ?_
      refine X_icmp_ne dX12_settle_133 (tgt := 149) rfl (fun c17 => ?_) (fun c17 => ?_)
      · refine X_aload_n dX12_settle_149 rfl ?_
        refine X_getfield (ci := 12) (k := 32) (v := vr (a 32)) dX12_settle_150 rfl (by decide) kf_RX12_83 (congrArg vr (MR.ar mr2 (k := 32) (by decide)).1) mr2.1 ?_
        refine X_iconst dX12_settle_153 (by decide) ?_
        refine X_iload_n dX12_settle_154 rfl ?_
        refine X_isubN dX12_settle_155 ((hc3.2 c4).1 c17).1 ((hc3.2 c4).1 c17).2.1 ?_
        refine X_iload dX12_settle_156 rfl ?_
        refine X_iastore dX12_settle_158 ((MR.ar mr2 (k := 32) (by decide)).2.1.trans (by decide)) ((hc3.2 c4).1 c17).2.2.1 (lt_eq ((hc3.2 c4).1 c17).2.2.2.1 (MR.ln mr2 (k := 32) (by decide) (by decide))) ?_
        exact X_ret (z := 0) dX12_settle_159 rfl (fun _ => trivial) ⟨rfl, _, ((hc3.2 c4).1 c17).2.2.2.2, (MR.putA mr2 (k := 32) (j := (-1) - x2) (z := z2) (by decide)), (MF.putA mf2 (k := 32) (j := (-1) - x2) (z := z2) (by decide))⟩
      · refine X_aload_n dX12_settle_136 rfl ?_
        refine X_aload_n dX12_settle_137 rfl ?_
        refine X_getfield (ci := 12) (k := 50) (v := vr (a 50)) dX12_settle_138 rfl (by decide) kf_RX12_113 (congrArg vr (MR.ar mr2 (k := 50) (by decide)).1) mr2.1 ?_
        refine X_iload_n dX12_settle_141 rfl ?_
        refine X_iaload dX12_settle_142 ((MR.ar mr2 (k := 50) (by decide)).2.1.trans (by decide)) ((hc3.2 c4).2 c17).1 (lt_eq ((hc3.2 c4).2 c17).2.1 (MR.ln mr2 (k := 50) (by decide) (by decide))) ?_
        refine X_top (v := vi (M2 50 x1)) (congrArg vi (MR.el mr2 (k := 50) (by decide) rfl)) ?_
        refine X_invV (ci := 12) (as := [vi (M2 50 x1)]) (st := []) okX12_lacks dX12_settle_143 km_RX12_385 rfl rfl (Nat.le_of_ble_eq_true rfl) rfl rfl mr2.1 (CT.of d 0 0 (hcl n_lacks_0 rfl [M2 50 x1] _ _ _ ((hc3.2 c4).2 c17).2.2 mr2) (Nat.le_refl _) (Nat.zero_le _) (Nat.zero_le _) (fun z18 S18 V18 hq18 => ?_))
        obtain ⟨rfl, M18, hc19, mr18, hf18⟩ := hq18
        have mf18 := MF.trans mf2 hf18
        refine X_goto dX12_settle_146 (tgt := 159) rfl ?_
        exact X_ret (z := 0) dX12_settle_159 rfl (fun _ => trivial) ⟨rfl, _, hc19, mr18, mf18⟩
  · refine X_aload_n dX12_settle_87 rfl ?_
    refine X_aload_n dX12_settle_88 rfl ?_
    refine X_getfield (ci := 12) (k := 49) (v := vr (a 49)) dX12_settle_89 rfl (by decide) kf_RX12_110 (congrArg vr (MR.ar mr (k := 49) (by decide)).1) mr.1 ?_
    refine X_iload_n dX12_settle_92 rfl ?_
    refine X_iaload dX12_settle_93 ((MR.ar mr (k := 49) (by decide)).2.1.trans (by decide)) (hB.2 c1).1 (lt_eq (hB.2 c1).2.1 (MR.ln mr (k := 49) (by decide) (by decide))) ?_
    refine X_top (v := vi (M 49 x1)) (congrArg vi (MR.el mr (k := 49) (by decide) rfl)) ?_
    refine X_invV (ci := 12) (as := [vi (M 49 x1)]) (st := []) okX12_lacks dX12_settle_94 km_RX12_385 rfl rfl (Nat.le_of_ble_eq_true rfl) rfl rfl mr.1 (CT.of d 0 0 (hcl n_lacks_0 rfl [M 49 x1] _ _ _ (hB.2 c1).2.2 mr) (Nat.le_refl _) (Nat.zero_le _) (Nat.zero_le _) (fun z20 S20 V20 hq20 => ?_))
    obtain ⟨rfl, M20, hc21, mr20, hf20⟩ := hq20
    have mf20 := MF.trans mf hf20
    exact X_ret (z := 0) dX12_settle_97 rfl (fun _ => trivial) ⟨rfl, _, hc21, mr20, mf20⟩
def B_settle_266 (rc : MP) (cl : MC) (Q : Int → Mem → Prop) (d : Nat) (x1 x2 x3 x4 x5 x6 x7 : Int) (M : Mem) : Prop := 0 ≤ x2 ∧ x2 < 31000 ∧ ((M 35 x2) ≠ 12 → (x5 = (-1) → (x5 = (-1) → -2147483648 ≤ 4 * x4 ∧ 4 * x4 ≤ 2147483647 ∧ -2147483648 ≤ (4 * x4) + x7 ∧ (4 * x4) + x7 ≤ 2147483647 ∧ Q 0 (up (up M 35 x2 11) 36 x2 ((4 * x4) + x7))) ∧ (¬ (x5 = (-1)) → -2147483648 ≤ 24 * x4 ∧ 24 * x4 ≤ 2147483647 ∧ -2147483648 ≤ (24 * x4) + x5 ∧ (24 * x4) + x5 ≤ 2147483647 ∧ Q 0 (up (up M 35 x2 11) 36 x2 ((24 * x4) + x5)))) ∧ (¬ (x5 = (-1)) → (x5 = (-1) → -2147483648 ≤ 4 * x4 ∧ 4 * x4 ≤ 2147483647 ∧ -2147483648 ≤ (4 * x4) + x7 ∧ (4 * x4) + x7 ≤ 2147483647 ∧ Q 0 (up (up M 35 x2 10) 36 x2 ((4 * x4) + x7))) ∧ (¬ (x5 = (-1)) → -2147483648 ≤ 24 * x4 ∧ 24 * x4 ≤ 2147483647 ∧ -2147483648 ≤ (24 * x4) + x5 ∧ (24 * x4) + x5 ≤ 2147483647 ∧ Q 0 (up (up M 35 x2 10) 36 x2 ((24 * x4) + x5))))) ∧ (¬ ((M 35 x2) ≠ 12) → -2147483648 ≤ 4 * x4 ∧ 4 * x4 ≤ 2147483647 ∧ -2147483648 ≤ (4 * x4) + x6 ∧ (4 * x4) + x6 ≤ 2147483647 ∧ Q 0 (up M 36 x2 ((4 * x4) + x6)))
set_option maxRecDepth 10000 in
theorem s_settle_266 {l : Launch} {G : GT} {m : Int} {a : Int → Int} {d mc ms : Nat} {S : Sh} {Q : Int → Mem → Prop} {rc : MP} {cl : MC} {V0 V M : Mem} {x1 x2 x3 x4 x5 x6 x7 : Int} (hrc : RCok l G m a S V0 Q d mc ms rc) (hcl : CLok l G m a S d cl) (mr : MR m a S V M) (mf : MF m a V0 V) (hB : B_settle_266 rc cl Q d x1 x2 x3 x4 x5 x6 x7 M) : XJ l G bX12_settle (Qm m a S V0 Q) (d + 1) 266 [vr m, vi x1, vi x2, vi x3, vi x4, vi x5, vi x6, vi x7] [] S V mc ms := by
  unfold B_settle_266 at hB
  refine X_aload_n dX12_settle_266 rfl ?_
  refine X_getfield (ci := 12) (k := 35) (v := vr (a 35)) dX12_settle_267 rfl (by decide) kf_RX12_92 (congrArg vr (MR.ar mr (k := 35) (by decide)).1) mr.1 ?_
  refine X_iload_n dX12_settle_270 rfl ?_
  refine X_iaload dX12_settle_271 ((MR.ar mr (k := 35) (by decide)).2.1.trans (by decide)) hB.1 (lt_eq hB.2.1 (MR.ln mr (k := 35) (by decide) (by decide))) ?_
  refine X_top (v := vi (M 35 x2)) (congrArg vi (MR.el mr (k := 35) (by decide) rfl)) ?_
  refine X_bipush dX12_settle_272 (by decide) (by decide) ?_
  refine X_icmp_ne dX12_settle_274 (tgt := 293) rfl (fun c1 => ?_) (fun c1 => ?_)
  · refine X_aload_n dX12_settle_293 rfl ?_
    refine X_getfield (ci := 12) (k := 35) (v := vr (a 35)) dX12_settle_294 rfl (by decide) kf_RX12_92 (congrArg vr (MR.ar mr (k := 35) (by decide)).1) mr.1 ?_
    refine X_iload_n dX12_settle_297 rfl ?_
    refine X_iload dX12_settle_298 rfl ?_
    refine X_iconst dX12_settle_300 (by decide) ?_
    refine X_icmp_eq dX12_settle_301 (tgt := 309) rfl (fun c2 => ?_) (fun c2 => ?_)
    · refine X_bipush dX12_settle_309 (by decide) (by decide) ?_
      refine X_iastore dX12_settle_311 ((MR.ar mr (k := 35) (by decide)).2.1.trans (by decide)) hB.1 (lt_eq hB.2.1 (MR.ln mr (k := 35) (by decide) (by decide))) ?_
      refine X_aload_n dX12_settle_312 rfl ?_
      refine X_getfield (ci := 12) (k := 36) (v := vr (a 36)) dX12_settle_313 rfl (by decide) kf_RX12_95 (congrArg vr (MR.ar (MR.putA mr (k := 35) (j := x2) (z := 11) (by decide)) (k := 36) (by decide)).1) (MR.putA mr (k := 35) (j := x2) (z := 11) (by decide)).1 ?_
      refine X_iload_n dX12_settle_316 rfl ?_
      refine X_iload dX12_settle_317 rfl ?_
      refine X_iconst dX12_settle_319 (by decide) ?_
      refine X_icmp_eq dX12_settle_320 (tgt := 334) rfl (fun c3 => ?_) (fun c3 => ?_)
      · refine X_iconst dX12_settle_334 (by decide) ?_
        refine X_iload dX12_settle_335 rfl ?_
        refine X_imulN dX12_settle_337 (((hB.2.2.1 c1).1 c2).1 c3).1 (((hB.2.2.1 c1).1 c2).1 c3).2.1 ?_
        refine X_iload dX12_settle_338 rfl ?_
        refine X_iaddN dX12_settle_340 (((hB.2.2.1 c1).1 c2).1 c3).2.2.1 (((hB.2.2.1 c1).1 c2).1 c3).2.2.2.1 ?_
        refine X_iastore dX12_settle_341 ((MR.ar (MR.putA mr (k := 35) (j := x2) (z := 11) (by decide)) (k := 36) (by decide)).2.1.trans (by decide)) hB.1 (lt_eq hB.2.1 (MR.ln (MR.putA mr (k := 35) (j := x2) (z := 11) (by decide)) (k := 36) (by decide) (by decide))) ?_
        exact X_ret (z := 0) dX12_settle_342 rfl (fun _ => trivial) ⟨rfl, _, (((hB.2.2.1 c1).1 c2).1 c3).2.2.2.2, (MR.putA (MR.putA mr (k := 35) (j := x2) (z := 11) (by decide)) (k := 36) (j := x2) (z := (4 * x4) + x7) (by decide)), (MF.putA (MF.putA mf (k := 35) (j := x2) (z := 11) (by decide)) (k := 36) (j := x2) (z := (4 * x4) + x7) (by decide))⟩
      · refine X_bipush dX12_settle_323 (by decide) (by decide) ?_
        refine X_iload dX12_settle_325 rfl ?_
        refine X_imulN dX12_settle_327 (((hB.2.2.1 c1).1 c2).2 c3).1 (((hB.2.2.1 c1).1 c2).2 c3).2.1 ?_
        refine X_iload dX12_settle_328 rfl ?_
        refine X_iaddN dX12_settle_330 (((hB.2.2.1 c1).1 c2).2 c3).2.2.1 (((hB.2.2.1 c1).1 c2).2 c3).2.2.2.1 ?_
        refine X_goto dX12_settle_331 (tgt := 341) rfl ?_
        refine X_iastore dX12_settle_341 ((MR.ar (MR.putA mr (k := 35) (j := x2) (z := 11) (by decide)) (k := 36) (by decide)).2.1.trans (by decide)) hB.1 (lt_eq hB.2.1 (MR.ln (MR.putA mr (k := 35) (j := x2) (z := 11) (by decide)) (k := 36) (by decide) (by decide))) ?_
        exact X_ret (z := 0) dX12_settle_342 rfl (fun _ => trivial) ⟨rfl, _, (((hB.2.2.1 c1).1 c2).2 c3).2.2.2.2, (MR.putA (MR.putA mr (k := 35) (j := x2) (z := 11) (by decide)) (k := 36) (j := x2) (z := (24 * x4) + x5) (by decide)), (MF.putA (MF.putA mf (k := 35) (j := x2) (z := 11) (by decide)) (k := 36) (j := x2) (z := (24 * x4) + x5) (by decide))⟩
    · refine X_bipush dX12_settle_304 (by decide) (by decide) ?_
      refine X_goto dX12_settle_306 (tgt := 311) rfl ?_
      refine X_iastore dX12_settle_311 ((MR.ar mr (k := 35) (by decide)).2.1.trans (by decide)) hB.1 (lt_eq hB.2.1 (MR.ln mr (k := 35) (by decide) (by decide))) ?_
      refine X_aload_n dX12_settle_312 rfl ?_
      refine X_getfield (ci := 12) (k := 36) (v := vr (a 36)) dX12_settle_313 rfl (by decide) kf_RX12_95 (congrArg vr (MR.ar (MR.putA mr (k := 35) (j := x2) (z := 10) (by decide)) (k := 36) (by decide)).1) (MR.putA mr (k := 35) (j := x2) (z := 10) (by decide)).1 ?_
      refine X_iload_n dX12_settle_316 rfl ?_
      refine X_iload dX12_settle_317 rfl ?_
      refine X_iconst dX12_settle_319 (by decide) ?_
      refine X_icmp_eq dX12_settle_320 (tgt := 334) rfl (fun c4 => ?_) (fun c4 => ?_)
      · refine X_iconst dX12_settle_334 (by decide) ?_
        refine X_iload dX12_settle_335 rfl ?_
        refine X_imulN dX12_settle_337 (((hB.2.2.1 c1).2 c2).1 c4).1 (((hB.2.2.1 c1).2 c2).1 c4).2.1 ?_
        refine X_iload dX12_settle_338 rfl ?_
        refine X_iaddN dX12_settle_340 (((hB.2.2.1 c1).2 c2).1 c4).2.2.1 (((hB.2.2.1 c1).2 c2).1 c4).2.2.2.1 ?_
        refine X_iastore dX12_settle_341 ((MR.ar (MR.putA mr (k := 35) (j := x2) (z := 10) (by decide)) (k := 36) (by decide)).2.1.trans (by decide)) hB.1 (lt_eq hB.2.1 (MR.ln (MR.putA mr (k := 35) (j := x2) (z := 10) (by decide)) (k := 36) (by decide) (by decide))) ?_
        exact X_ret (z := 0) dX12_settle_342 rfl (fun _ => trivial) ⟨rfl, _, (((hB.2.2.1 c1).2 c2).1 c4).2.2.2.2, (MR.putA (MR.putA mr (k := 35) (j := x2) (z := 10) (by decide)) (k := 36) (j := x2) (z := (4 * x4) + x7) (by decide)), (MF.putA (MF.putA mf (k := 35) (j := x2) (z := 10) (by decide)) (k := 36) (j := x2) (z := (4 * x4) + x7) (by decide))⟩
      · refine X_bipush dX12_settle_323 (by decide) (by decide) ?_
        refine X_iload dX12_settle_325 rfl ?_
        refine X_imulN dX12_settle_327 (((hB.2.2.1 c1).2 c2).2 c4).1 (((hB.2.2.1 c1).2 c2).2 c4).2.1 ?_
        refine X_iload dX12_settle_328 rfl ?_
        refine X_iaddN dX12_settle_330 (((hB.2.2.1 c1).2 c2).2 c4).2.2.1 (((hB.2.2.1 c1).2 c2).2 c4).2.2.2.1 ?_
        refine X_goto dX12_settle_331 (tgt := 341) rfl ?_
        refine X_iastore dX12_settle_341 ((MR.ar (MR.putA mr (k := 35) (j := x2) (z := 10) (by decide)) (k := 36) (by decide)).2.1.trans (by decide)) hB.1 (lt_eq hB.2.1 (MR.ln (MR.putA mr (k := 35) (j := x2) (z := 10) (by decide)) (k := 36) (by decide) (by decide))) ?_
        exact X_ret (z := 0) dX12_settle_342 rfl (fun _ => trivial) ⟨rfl, _, (((hB.2.2.1 c1).2 c2).2 c4).2.2.2.2, (MR.putA (MR.putA mr (k := 35) (j := x2) (z := 10) (by decide)) (k := 36) (j := x2) (z := (24 * x4) + x5) (by decide)), (MF.putA (MF.putA mf (k := 35) (j := x2) (z := 10) (by decide)) (k := 36) (j := x2) (z := (24 * x4) + x5) (by decide))⟩
  · refine X_aload_n dX12_settle_277 rfl ?_
    refine X_getfield (ci := 12) (k := 36) (v := vr (a 36)) dX12_settle_278 rfl (by decide) kf_RX12_95 (congrArg vr (MR.ar mr (k := 36) (by decide)).1) mr.1 ?_
    refine X_iload_n dX12_settle_281 rfl ?_
    refine X_iconst dX12_settle_282 (by decide) ?_
    refine X_iload dX12_settle_283 rfl ?_
    refine X_imulN dX12_settle_285 (hB.2.2.2 c1).1 (hB.2.2.2 c1).2.1 ?_
    refine X_iload dX12_settle_286 rfl ?_
    refine X_iaddN dX12_settle_288 (hB.2.2.2 c1).2.2.1 (hB.2.2.2 c1).2.2.2.1 ?_
    refine X_iastore dX12_settle_289 ((MR.ar mr (k := 36) (by decide)).2.1.trans (by decide)) hB.1 (lt_eq hB.2.1 (MR.ln mr (k := 36) (by decide) (by decide))) ?_
    refine X_goto dX12_settle_290 (tgt := 342) rfl ?_
    exact X_ret (z := 0) dX12_settle_342 rfl (fun _ => trivial) ⟨rfl, _, (hB.2.2.2 c1).2.2.2.2, (MR.putA mr (k := 36) (j := x2) (z := (4 * x4) + x6) (by decide)), (MF.putA mf (k := 36) (j := x2) (z := (4 * x4) + x6) (by decide))⟩
def B_lacks_0 (rc : MP) (cl : MC) (Q : Int → Mem → Prop) (d : Nat) (x1 : Int) (M : Mem) : Prop := -2147483648 ≤ 3000 * (M 0 9) ∧ 3000 * (M 0 9) ≤ 2147483647 ∧ -2147483648 ≤ (x1.tdiv 16) - (3000 * (M 0 9)) ∧ (x1.tdiv 16) - (3000 * (M 0 9)) ≤ 2147483647 ∧ Q 0 (up (up M 0 46 4) 0 47 ((x1.tdiv 16) - (3000 * (M 0 9))))
set_option maxRecDepth 10000 in
theorem s_lacks_0 {l : Launch} {G : GT} {m : Int} {a : Int → Int} {d mc ms : Nat} {S : Sh} {Q : Int → Mem → Prop} {rc : MP} {cl : MC} {V0 V M : Mem} {x1 : Int} (hrc : RCok l G m a S V0 Q d mc ms rc) (hcl : CLok l G m a S d cl) (mr : MR m a S V M) (mf : MF m a V0 V) (hB : B_lacks_0 rc cl Q d x1 M) : XJ l G bX12_lacks (Qm m a S V0 Q) (d + 1) 0 [vr m, vi x1] [] S V mc ms := by
  unfold B_lacks_0 at hB
  refine X_aload_n dX12_lacks_0 rfl ?_
  refine X_iconst dX12_lacks_1 (by decide) ?_
  refine X_putfield (ci := 12) (k := 46) (z := 4) dX12_lacks_2 rfl (by decide) kf_RX12_275 (Or.inl rfl) (Or.inl rfl) rfl (fun hv => hv) mr.1 ?_
  refine X_aload_n dX12_lacks_5 rfl ?_
  refine X_iload_n dX12_lacks_6 rfl ?_
  refine X_bipush dX12_lacks_7 (by decide) (by decide) ?_
  refine X_idivP dX12_lacks_9 (by decide) ?_
  refine X_sipush dX12_lacks_10 (by decide) (by decide) ?_
  refine X_aload_n dX12_lacks_13 rfl ?_
  refine X_getfield (ci := 12) (k := 9) (v := vi (M 0 9)) dX12_lacks_14 rfl (by decide) kf_RX12_263 (congrArg vi (MR.in_ (MR.putI mr (k := 46) (z := 4) (by decide)) (k := 9) (by decide) (up_ne (Or.inr (by decide))))) (MR.putI mr (k := 46) (z := 4) (by decide)).1 ?_
  refine X_imulN dX12_lacks_17 hB.1 hB.2.1 ?_
  refine X_isubN dX12_lacks_18 hB.2.2.1 hB.2.2.2.1 ?_
  refine X_putfield (ci := 12) (k := 47) (z := ((x1.tdiv 16) - (3000 * (M 0 9)))) dX12_lacks_19 rfl (by decide) kf_RX12_278 (Or.inl rfl) (Or.inl rfl) rfl (fun hv => hv) (MR.putI mr (k := 46) (z := 4) (by decide)).1 ?_
  exact X_ret (z := 0) dX12_lacks_22 rfl (fun _ => trivial) ⟨rfl, _, hB.2.2.2.2, (MR.putI (MR.putI mr (k := 46) (z := 4) (by decide)) (k := 47) (z := (x1.tdiv 16) - (3000 * (M 0 9))) (by decide)), (MF.putI (MF.putI mf (k := 46) (z := 4)) (k := 47) (z := (x1.tdiv 16) - (3000 * (M 0 9))))⟩
def B_among_0 (rc : MP) (cl : MC) (Q : Int → Mem → Prop) (d : Nat) (x1 x2 x3 x4 : Int) (M : Mem) : Prop := rc n_among_3 [x1, x2, x3, x4, 0] M
set_option maxRecDepth 10000 in
theorem s_among_0 {l : Launch} {G : GT} {m : Int} {a : Int → Int} {d mc ms : Nat} {S : Sh} {Q : Int → Mem → Prop} {rc : MP} {cl : MC} {V0 V M : Mem} {x1 x2 x3 x4 : Int} (hrc : RCok l G m a S V0 Q d mc ms rc) (hcl : CLok l G m a S d cl) (mr : MR m a S V M) (mf : MF m a V0 V) (hB : B_among_0 rc cl Q d x1 x2 x3 x4 M) : XJ l G bX12_among (Qm m a S V0 Q) (d + 1) 0 [vr m, vr (a x1), vi x2, vi x3, vi x4, vu] [] S V mc ms := by
  unfold B_among_0 at hB
  refine X_iconst dX12_among_0 (by decide) ?_
  refine X_istore dX12_among_1 (by decide) rfl ?_
  exact hrc n_among_3 [x1, x2, x3, x4, 0] _ _ hB mr mf
def B_among_3 (rc : MP) (cl : MC) (Q : Int → Mem → Prop) (d : Nat) (x1 x2 x3 x4 x5 : Int) (M : Mem) : Prop := (x3 ≤ x5 → Q (-1) M) ∧ (¬ (x3 ≤ x5) → -2147483648 ≤ x2 + x5 ∧ x2 + x5 ≤ 2147483647 ∧ mt x1 = 20 ∧ 0 ≤ (x2 + x5) ∧ (x2 + x5) < ml x1 ∧ cl n_isSame_0 [M x1 (x2 + x5), x4] M (fun z2 M2 => (z2 = 0 → -2147483648 ≤ x5 + 1 ∧ x5 + 1 ≤ 2147483647 ∧ rc n_among_3 [x1, x2, x3, x4, x5 + 1] M2) ∧ (¬ (z2 = 0) → Q x5 M2)))
set_option maxRecDepth 10000 in
theorem s_among_3 {l : Launch} {G : GT} {m : Int} {a : Int → Int} {d mc ms : Nat} {S : Sh} {Q : Int → Mem → Prop} {rc : MP} {cl : MC} {V0 V M : Mem} {x1 x2 x3 x4 x5 : Int} (hrc : RCok l G m a S V0 Q d mc ms rc) (hcl : CLok l G m a S d cl) (mr : MR m a S V M) (mf : MF m a V0 V) (hB : B_among_3 rc cl Q d x1 x2 x3 x4 x5 M) : XJ l G bX12_among (Qm m a S V0 Q) (d + 1) 3 [vr m, vr (a x1), vi x2, vi x3, vi x4, vi x5] [] S V mc ms := by
  unfold B_among_3 at hB
  refine X_iload dX12_among_3 rfl ?_
  refine X_iload_n dX12_among_5 rfl ?_
  refine X_icmp_ge dX12_among_6 (tgt := 33) rfl (fun c1 => ?_) (fun c1 => ?_)
  · refine X_iconst dX12_among_33 (by decide) ?_
    exact X_ret (z := (-1)) dX12_among_34 rfl (fun hv => vok_h hv) ⟨rfl, _, (hB.1 c1), mr, mf⟩
  · refine X_aload_n dX12_among_9 rfl ?_
    refine X_aload_n dX12_among_10 rfl ?_
    refine X_iload_n dX12_among_11 rfl ?_
    refine X_iload dX12_among_12 rfl ?_
    refine X_iaddN dX12_among_14 (hB.2 c1).1 (hB.2 c1).2.1 ?_
    refine X_iaload dX12_among_15 ((MR.ar mr (mt_ne (hB.2 c1).2.2.1 (by decide))).2.1.trans (hB.2 c1).2.2.1) (hB.2 c1).2.2.2.1 (lt_eq (hB.2 c1).2.2.2.2.1 (MR.ln mr (k := x1) (mt_ne (hB.2 c1).2.2.1 (by decide)) rfl)) ?_
    refine X_top (v := vi (M x1 (x2 + x5))) (congrArg vi (MR.el mr (k := x1) (mt_ne (hB.2 c1).2.2.1 (by decide)) rfl)) ?_
    refine X_iload dX12_among_16 rfl ?_
    refine X_invV (ci := 12) (as := [vi (M x1 (x2 + x5)), vi x4]) (st := []) okX12_isSame dX12_among_18 km_RX12_297 rfl rfl (Nat.le_of_ble_eq_true rfl) rfl rfl mr.1 (CT.of d 0 0 (hcl n_isSame_0 rfl [M x1 (x2 + x5), x4] _ _ _ (hB.2 c1).2.2.2.2.2 mr) (Nat.le_refl _) (Nat.zero_le _) (Nat.zero_le _) (fun z2 S2 V2 hq2 => ?_))
    obtain ⟨rfl, M2, hc3, mr2, hf2⟩ := hq2
    have mf2 := MF.trans mf hf2
    refine X_if_eq dX12_among_21 (tgt := 27) rfl (fun c4 => ?_) (fun c4 => ?_)
    · refine X_iincN dX12_among_27 rfl (by decide) rfl (e := x5 + 1) rfl (hc3.1 c4).1 (hc3.1 c4).2.1 ?_
      refine X_goto dX12_among_30 (tgt := 3) rfl ?_
      exact hrc n_among_3 [x1, x2, x3, x4, x5 + 1] _ _ (hc3.1 c4).2.2 mr2 mf2
    · refine X_iload dX12_among_24 rfl ?_
      exact X_ret (z := x5) dX12_among_26 rfl (fun hv => vok_h hv) ⟨rfl, _, (hc3.2 c4), mr2, mf2⟩
