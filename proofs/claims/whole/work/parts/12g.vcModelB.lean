set_option maxRecDepth 10000 in
theorem vX12_starts_0 {l : Launch} {G : GT} {Q : Int → Sh → Mem → Prop} {d : Nat} {S : Sh} {V : Mem} {mc ms : Nat} {x0 x1 : Int} (h : S.1 x0 = 13 ∧ ((V x0 64) ≠ 12 → -2147483648 ≤ 160 * (V x0 9) ∧ 160 * (V x0 9) ≤ 2147483647 ∧ -2147483648 ≤ (160 * (V x0 9)) + x1 ∧ (160 * (V x0 9)) + x1 ≤ 2147483647 ∧ S.1 (V x0 52) = 20 ∧ 0 ≤ ((160 * (V x0 9)) + x1) ∧ ((160 * (V x0 9)) + x1) < S.2.1 (V x0 52) ∧ S.1 (V x0 59) = 20 ∧ 0 ≤ (V x0 9) ∧ (V x0 9) < S.2.1 (V x0 59) ∧ -2147483648 ≤ (160 * (V x0 9)) + ((up V (V x0 52) ((160 * (V x0 9)) + x1) 3) (V x0 59) (V x0 9)) ∧ (160 * (V x0 9)) + ((up V (V x0 52) ((160 * (V x0 9)) + x1) 3) (V x0 59) (V x0 9)) ≤ 2147483647 ∧ S.1 (V x0 58) = 20 ∧ 0 ≤ ((160 * (V x0 9)) + ((up V (V x0 52) ((160 * (V x0 9)) + x1) 3) (V x0 59) (V x0 9))) ∧ ((160 * (V x0 9)) + ((up V (V x0 52) ((160 * (V x0 9)) + x1) 3) (V x0 59) (V x0 9))) < S.2.1 (V x0 58) ∧ -2147483648 ≤ ((up (up V (V x0 52) ((160 * (V x0 9)) + x1) 3) (V x0 58) ((160 * (V x0 9)) + ((up V (V x0 52) ((160 * (V x0 9)) + x1) 3) (V x0 59) (V x0 9))) x1) (V x0 59) (V x0 9)) + 1 ∧ ((up (up V (V x0 52) ((160 * (V x0 9)) + x1) 3) (V x0 58) ((160 * (V x0 9)) + ((up V (V x0 52) ((160 * (V x0 9)) + x1) 3) (V x0 59) (V x0 9))) x1) (V x0 59) (V x0 9)) + 1 ≤ 2147483647 ∧ S.1 (V x0 63) = 20 ∧ 0 ≤ (V x0 64) ∧ (V x0 64) < S.2.1 (V x0 63) ∧ -2147483648 ≤ (V x0 64) + 1 ∧ (V x0 64) + 1 ≤ 2147483647 ∧ (100 ≤ x1 → -2147483648 ≤ 48 * (V x0 9) ∧ 48 * (V x0 9) ≤ 2147483647 ∧ -2147483648 ≤ (48 * (V x0 9)) + x1 ∧ (48 * (V x0 9)) + x1 ≤ 2147483647 ∧ -2147483648 ≤ ((48 * (V x0 9)) + x1) - 100 ∧ ((48 * (V x0 9)) + x1) - 100 ≤ 2147483647 ∧ CT l G bX12_startsHolder d mc ms [vr x0, vi (((48 * (V x0 9)) + x1) - 100)] S (up (up (up (up (up V (V x0 52) ((160 * (V x0 9)) + x1) 3) (V x0 58) ((160 * (V x0 9)) + ((up V (V x0 52) ((160 * (V x0 9)) + x1) 3) (V x0 59) (V x0 9))) x1) (V x0 59) (V x0 9) (((up (up V (V x0 52) ((160 * (V x0 9)) + x1) 3) (V x0 58) ((160 * (V x0 9)) + ((up V (V x0 52) ((160 * (V x0 9)) + x1) 3) (V x0 59) (V x0 9))) x1) (V x0 59) (V x0 9)) + 1)) (V x0 63) (V x0 64) x1) x0 64 ((V x0 64) + 1)) (fun z3 S3 V3 mc3 ms3 => S3.1 x0 = 13 ∧ -2147483648 ≤ (V3 x0 64) - 1 ∧ (V3 x0 64) - 1 ≤ 2147483647 ∧ -2147483648 ≤ 160 * (V3 x0 9) ∧ 160 * (V3 x0 9) ≤ 2147483647 ∧ -2147483648 ≤ (160 * (V3 x0 9)) + x1 ∧ (160 * (V3 x0 9)) + x1 ≤ 2147483647 ∧ ((V3 x0 65) = 0 → S3.1 (V3 x0 52) = 20 ∧ 0 ≤ ((160 * (V3 x0 9)) + x1) ∧ ((160 * (V3 x0 9)) + x1) < S3.2.1 (V3 x0 52) ∧ ((V3 x0 65) = 0 → Q 0 S3 (up (up V3 x0 64 ((V3 x0 64) - 1)) (V3 x0 52) ((160 * (V3 x0 9)) + x1) 1)) ∧ (¬ ((V3 x0 65) = 0) → S3.1 (V3 x0 66) = 20 ∧ 0 ≤ (V3 x0 68) ∧ (V3 x0 68) < S3.2.1 (V3 x0 66) ∧ S3.1 (V3 x0 67) = 20 ∧ (V3 x0 68) < S3.2.1 (V3 x0 67) ∧ -2147483648 ≤ (V3 x0 68) + 1 ∧ (V3 x0 68) + 1 ≤ 2147483647 ∧ Q 0 S3 (up (up (up (up (up V3 x0 64 ((V3 x0 64) - 1)) (V3 x0 52) ((160 * (V3 x0 9)) + x1) 1) (V3 x0 66) (V3 x0 68) 1) (V3 x0 67) (V3 x0 68) x1) x0 68 ((V3 x0 68) + 1)))) ∧ (¬ ((V3 x0 65) = 0) → S3.1 (V3 x0 52) = 20 ∧ 0 ≤ ((160 * (V3 x0 9)) + x1) ∧ ((160 * (V3 x0 9)) + x1) < S3.2.1 (V3 x0 52) ∧ ((V3 x0 65) = 0 → Q 0 S3 (up (up V3 x0 64 ((V3 x0 64) - 1)) (V3 x0 52) ((160 * (V3 x0 9)) + x1) 2)) ∧ (¬ ((V3 x0 65) = 0) → S3.1 (V3 x0 66) = 20 ∧ 0 ≤ (V3 x0 68) ∧ (V3 x0 68) < S3.2.1 (V3 x0 66) ∧ S3.1 (V3 x0 67) = 20 ∧ (V3 x0 68) < S3.2.1 (V3 x0 67) ∧ -2147483648 ≤ (V3 x0 68) + 1 ∧ (V3 x0 68) + 1 ≤ 2147483647 ∧ Q 0 S3 (up (up (up (up (up V3 x0 64 ((V3 x0 64) - 1)) (V3 x0 52) ((160 * (V3 x0 9)) + x1) 2) (V3 x0 66) (V3 x0 68) 1) (V3 x0 67) (V3 x0 68) x1) x0 68 ((V3 x0 68) + 1)))))) ∧ (¬ (100 ≤ x1) → -2147483648 ≤ 12 * (V x0 9) ∧ 12 * (V x0 9) ≤ 2147483647 ∧ -2147483648 ≤ (12 * (V x0 9)) + x1 ∧ (12 * (V x0 9)) + x1 ≤ 2147483647 ∧ CT l G bX12_startsEnum d mc ms [vr x0, vi ((12 * (V x0 9)) + x1)] S (up (up (up (up (up V (V x0 52) ((160 * (V x0 9)) + x1) 3) (V x0 58) ((160 * (V x0 9)) + ((up V (V x0 52) ((160 * (V x0 9)) + x1) 3) (V x0 59) (V x0 9))) x1) (V x0 59) (V x0 9) (((up (up V (V x0 52) ((160 * (V x0 9)) + x1) 3) (V x0 58) ((160 * (V x0 9)) + ((up V (V x0 52) ((160 * (V x0 9)) + x1) 3) (V x0 59) (V x0 9))) x1) (V x0 59) (V x0 9)) + 1)) (V x0 63) (V x0 64) x1) x0 64 ((V x0 64) + 1)) (fun z8 S8 V8 mc8 ms8 => S8.1 x0 = 13 ∧ -2147483648 ≤ (V8 x0 64) - 1 ∧ (V8 x0 64) - 1 ≤ 2147483647 ∧ -2147483648 ≤ 160 * (V8 x0 9) ∧ 160 * (V8 x0 9) ≤ 2147483647 ∧ -2147483648 ≤ (160 * (V8 x0 9)) + x1 ∧ (160 * (V8 x0 9)) + x1 ≤ 2147483647 ∧ ((V8 x0 65) = 0 → S8.1 (V8 x0 52) = 20 ∧ 0 ≤ ((160 * (V8 x0 9)) + x1) ∧ ((160 * (V8 x0 9)) + x1) < S8.2.1 (V8 x0 52) ∧ ((V8 x0 65) = 0 → Q 0 S8 (up (up V8 x0 64 ((V8 x0 64) - 1)) (V8 x0 52) ((160 * (V8 x0 9)) + x1) 1)) ∧ (¬ ((V8 x0 65) = 0) → S8.1 (V8 x0 66) = 20 ∧ 0 ≤ (V8 x0 68) ∧ (V8 x0 68) < S8.2.1 (V8 x0 66) ∧ S8.1 (V8 x0 67) = 20 ∧ (V8 x0 68) < S8.2.1 (V8 x0 67) ∧ -2147483648 ≤ (V8 x0 68) + 1 ∧ (V8 x0 68) + 1 ≤ 2147483647 ∧ Q 0 S8 (up (up (up (up (up V8 x0 64 ((V8 x0 64) - 1)) (V8 x0 52) ((160 * (V8 x0 9)) + x1) 1) (V8 x0 66) (V8 x0 68) 1) (V8 x0 67) (V8 x0 68) x1) x0 68 ((V8 x0 68) + 1)))) ∧ (¬ ((V8 x0 65) = 0) → S8.1 (V8 x0 52) = 20 ∧ 0 ≤ ((160 * (V8 x0 9)) + x1) ∧ ((160 * (V8 x0 9)) + x1) < S8.2.1 (V8 x0 52) ∧ ((V8 x0 65) = 0 → Q 0 S8 (up (up V8 x0 64 ((V8 x0 64) - 1)) (V8 x0 52) ((160 * (V8 x0 9)) + x1) 2)) ∧ (¬ ((V8 x0 65) = 0) → S8.1 (V8 x0 66) = 20 ∧ 0 ≤ (V8 x0 68) ∧ (V8 x0 68) < S8.2.1 (V8 x0 66) ∧ S8.1 (V8 x0 67) = 20 ∧ (V8 x0 68) < S8.2.1 (V8 x0 67) ∧ -2147483648 ≤ (V8 x0 68) + 1 ∧ (V8 x0 68) + 1 ≤ 2147483647 ∧ Q 0 S8 (up (up (up (up (up V8 x0 64 ((V8 x0 64) - 1)) (V8 x0 52) ((160 * (V8 x0 9)) + x1) 2) (V8 x0 66) (V8 x0 68) 1) (V8 x0 67) (V8 x0 68) x1) x0 68 ((V8 x0 68) + 1))))))) ∧ (¬ ((V x0 64) ≠ 12) → CT l G bX12_failing d mc ms [vr x0, vi 6, vi (-1)] S V (fun z13 S13 V13 mc13 ms13 => Q 0 S13 V13))) : XJ l G bX12_starts Q d 0 [vr x0, vi x1, vu] [] S V mc ms := by
  refine X_aload_n dX12_starts_0 rfl ?_
  refine X_getfield (ci := 12) (k := 64) (v := vi (V x0 64)) dX12_starts_1 rfl (by decide) kf_RX12_413 rfl h.1 ?_
  refine X_bipush dX12_starts_4 (by decide) (by decide) ?_
  refine X_icmp_ne dX12_starts_6 (tgt := 18) rfl (fun c1 => ?_) (fun c1 => ?_)
  · refine X_aload_n dX12_starts_18 rfl ?_
    refine X_getfield (ci := 12) (k := 52) (v := vr (V x0 52)) dX12_starts_19 rfl (by decide) kf_RX12_116 rfl h.1 ?_
    refine X_sipush dX12_starts_22 (by decide) (by decide) ?_
    refine X_aload_n dX12_starts_25 rfl ?_
    refine X_getfield (ci := 12) (k := 9) (v := vi (V x0 9)) dX12_starts_26 rfl (by decide) kf_RX12_263 rfl h.1 ?_
    refine X_imulN dX12_starts_29 (h.2.1 c1).1 (h.2.1 c1).2.1 ?_
    refine X_iload_n dX12_starts_30 rfl ?_
    refine X_iaddN dX12_starts_31 (h.2.1 c1).2.2.1 (h.2.1 c1).2.2.2.1 ?_
    refine X_iconst dX12_starts_32 (by decide) ?_
    refine X_iastore dX12_starts_33 (h.2.1 c1).2.2.2.2.1 (h.2.1 c1).2.2.2.2.2.1 (h.2.1 c1).2.2.2.2.2.2.1 ?_
    refine X_aload_n dX12_starts_34 rfl ?_
    refine X_getfield (ci := 12) (k := 58) (v := vr (V x0 58)) dX12_starts_35 rfl (by decide) kf_RX12_134 (congrArg vr (up_ne (Or.inl (tag_ne h.1 (h.2.1 c1).2.2.2.2.1 (by decide))))) h.1 ?_
    refine X_sipush dX12_starts_38 (by decide) (by decide) ?_
    refine X_aload_n dX12_starts_41 rfl ?_
    refine X_getfield (ci := 12) (k := 9) (v := vi (V x0 9)) dX12_starts_42 rfl (by decide) kf_RX12_263 (congrArg vi (up_ne (Or.inl (tag_ne h.1 (h.2.1 c1).2.2.2.2.1 (by decide))))) h.1 ?_
    refine X_imulN dX12_starts_45 (h.2.1 c1).1 (h.2.1 c1).2.1 ?_
    refine X_aload_n dX12_starts_46 rfl ?_
    refine X_getfield (ci := 12) (k := 59) (v := vr (V x0 59)) dX12_starts_47 rfl (by decide) kf_RX12_137 (congrArg vr (up_ne (Or.inl (tag_ne h.1 (h.2.1 c1).2.2.2.2.1 (by decide))))) h.1 ?_
    refine X_aload_n dX12_starts_50 rfl ?_
    refine X_getfield (ci := 12) (k := 9) (v := vi (V x0 9)) dX12_starts_51 rfl (by decide) kf_RX12_263 (congrArg vi (up_ne (Or.inl (tag_ne h.1 (h.2.1 c1).2.2.2.2.1 (by decide))))) h.1 ?_
    refine X_iaload dX12_starts_54 (h.2.1 c1).2.2.2.2.2.2.2.1 (h.2.1 c1).2.2.2.2.2.2.2.2.1 (h.2.1 c1).2.2.2.2.2.2.2.2.2.1 ?_
    refine X_iaddN dX12_starts_55 (h.2.1 c1).2.2.2.2.2.2.2.2.2.2.1 (h.2.1 c1).2.2.2.2.2.2.2.2.2.2.2.1 ?_
    refine X_iload_n dX12_starts_56 rfl ?_
    refine X_iastore dX12_starts_57 (h.2.1 c1).2.2.2.2.2.2.2.2.2.2.2.2.1 (h.2.1 c1).2.2.2.2.2.2.2.2.2.2.2.2.2.1 (h.2.1 c1).2.2.2.2.2.2.2.2.2.2.2.2.2.2.1 ?_
    refine X_aload_n dX12_starts_58 rfl ?_
    refine X_getfield (ci := 12) (k := 59) (v := vr (V x0 59)) dX12_starts_59 rfl (by decide) kf_RX12_137 (congrArg vr ((up_ne (Or.inl (tag_ne h.1 (h.2.1 c1).2.2.2.2.2.2.2.2.2.2.2.2.1 (by decide)))).trans (up_ne (Or.inl (tag_ne h.1 (h.2.1 c1).2.2.2.2.1 (by decide)))))) h.1 ?_
    refine X_aload_n dX12_starts_62 rfl ?_
    refine X_getfield (ci := 12) (k := 9) (v := vi (V x0 9)) dX12_starts_63 rfl (by decide) kf_RX12_263 (congrArg vi ((up_ne (Or.inl (tag_ne h.1 (h.2.1 c1).2.2.2.2.2.2.2.2.2.2.2.2.1 (by decide)))).trans (up_ne (Or.inl (tag_ne h.1 (h.2.1 c1).2.2.2.2.1 (by decide)))))) h.1 ?_
    refine X_dup2 dX12_starts_66 rfl (rv_cat _) ?_
    refine X_iaload dX12_starts_67 (h.2.1 c1).2.2.2.2.2.2.2.1 (h.2.1 c1).2.2.2.2.2.2.2.2.1 (h.2.1 c1).2.2.2.2.2.2.2.2.2.1 ?_
    refine X_iconst dX12_starts_68 (by decide) ?_
    refine X_iaddN dX12_starts_69 (h.2.1 c1).2.2.2.2.2.2.2.2.2.2.2.2.2.2.2.1 (h.2.1 c1).2.2.2.2.2.2.2.2.2.2.2.2.2.2.2.2.1 ?_
    refine X_iastore dX12_starts_70 (h.2.1 c1).2.2.2.2.2.2.2.1 (h.2.1 c1).2.2.2.2.2.2.2.2.1 (h.2.1 c1).2.2.2.2.2.2.2.2.2.1 ?_
    refine X_aload_n dX12_starts_71 rfl ?_
    refine X_getfield (ci := 12) (k := 63) (v := vr (V x0 63)) dX12_starts_72 rfl (by decide) kf_RX12_149 (congrArg vr ((up_ne (Or.inl (tag_ne h.1 (h.2.1 c1).2.2.2.2.2.2.2.1 (by decide)))).trans ((up_ne (Or.inl (tag_ne h.1 (h.2.1 c1).2.2.2.2.2.2.2.2.2.2.2.2.1 (by decide)))).trans (up_ne (Or.inl (tag_ne h.1 (h.2.1 c1).2.2.2.2.1 (by decide))))))) h.1 ?_
    refine X_aload_n dX12_starts_75 rfl ?_
    refine X_getfield (ci := 12) (k := 64) (v := vi (V x0 64)) dX12_starts_76 rfl (by decide) kf_RX12_413 (congrArg vi ((up_ne (Or.inl (tag_ne h.1 (h.2.1 c1).2.2.2.2.2.2.2.1 (by decide)))).trans ((up_ne (Or.inl (tag_ne h.1 (h.2.1 c1).2.2.2.2.2.2.2.2.2.2.2.2.1 (by decide)))).trans (up_ne (Or.inl (tag_ne h.1 (h.2.1 c1).2.2.2.2.1 (by decide))))))) h.1 ?_
    refine X_iload_n dX12_starts_79 rfl ?_
    refine X_iastore dX12_starts_80 (h.2.1 c1).2.2.2.2.2.2.2.2.2.2.2.2.2.2.2.2.2.1 (h.2.1 c1).2.2.2.2.2.2.2.2.2.2.2.2.2.2.2.2.2.2.1 (h.2.1 c1).2.2.2.2.2.2.2.2.2.2.2.2.2.2.2.2.2.2.2.1 ?_
    refine X_aload_n dX12_starts_81 rfl ?_
    refine X_dup dX12_starts_82 (rv_cat _) ?_
    refine X_getfield (ci := 12) (k := 64) (v := vi (V x0 64)) dX12_starts_83 rfl (by decide) kf_RX12_413 (congrArg vi ((up_ne (Or.inl (tag_ne h.1 (h.2.1 c1).2.2.2.2.2.2.2.2.2.2.2.2.2.2.2.2.2.1 (by decide)))).trans ((up_ne (Or.inl (tag_ne h.1 (h.2.1 c1).2.2.2.2.2.2.2.1 (by decide)))).trans ((up_ne (Or.inl (tag_ne h.1 (h.2.1 c1).2.2.2.2.2.2.2.2.2.2.2.2.1 (by decide)))).trans (up_ne (Or.inl (tag_ne h.1 (h.2.1 c1).2.2.2.2.1 (by decide)))))))) h.1 ?_
    refine X_iconst dX12_starts_86 (by decide) ?_
    refine X_iaddN dX12_starts_87 (h.2.1 c1).2.2.2.2.2.2.2.2.2.2.2.2.2.2.2.2.2.2.2.2.1 (h.2.1 c1).2.2.2.2.2.2.2.2.2.2.2.2.2.2.2.2.2.2.2.2.2.1 ?_
    refine X_putfield (ci := 12) (k := 64) (z := ((V x0 64) + 1)) dX12_starts_88 rfl (by decide) kf_RX12_413 (Or.inl rfl) (Or.inl rfl) rfl (fun hv => hv) h.1 ?_
    refine X_iload_n dX12_starts_91 rfl ?_
    refine X_bipush dX12_starts_92 (by decide) (by decide) ?_
    refine X_icmp_ge dX12_starts_94 (tgt := 113) rfl (fun c2 => ?_) (fun c2 => ?_)
    · refine X_aload_n dX12_starts_113 rfl ?_
      refine X_bipush dX12_starts_114 (by decide) (by decide) ?_
      refine X_aload_n dX12_starts_116 rfl ?_
      refine X_getfield (ci := 12) (k := 9) (v := vi (V x0 9)) dX12_starts_117 rfl (by decide) kf_RX12_263 (congrArg vi ((up_ne (Or.inr (by decide))).trans ((up_ne (Or.inl (tag_ne h.1 (h.2.1 c1).2.2.2.2.2.2.2.2.2.2.2.2.2.2.2.2.2.1 (by decide)))).trans ((up_ne (Or.inl (tag_ne h.1 (h.2.1 c1).2.2.2.2.2.2.2.1 (by decide)))).trans ((up_ne (Or.inl (tag_ne h.1 (h.2.1 c1).2.2.2.2.2.2.2.2.2.2.2.2.1 (by decide)))).trans (up_ne (Or.inl (tag_ne h.1 (h.2.1 c1).2.2.2.2.1 (by decide))))))))) h.1 ?_
      refine X_imulN dX12_starts_120 ((h.2.1 c1).2.2.2.2.2.2.2.2.2.2.2.2.2.2.2.2.2.2.2.2.2.2.1 c2).1 ((h.2.1 c1).2.2.2.2.2.2.2.2.2.2.2.2.2.2.2.2.2.2.2.2.2.2.1 c2).2.1 ?_
      refine X_iload_n dX12_starts_121 rfl ?_
      refine X_iaddN dX12_starts_122 ((h.2.1 c1).2.2.2.2.2.2.2.2.2.2.2.2.2.2.2.2.2.2.2.2.2.2.1 c2).2.2.1 ((h.2.1 c1).2.2.2.2.2.2.2.2.2.2.2.2.2.2.2.2.2.2.2.2.2.2.1 c2).2.2.2.1 ?_
      refine X_bipush dX12_starts_123 (by decide) (by decide) ?_
      refine X_isubN dX12_starts_125 ((h.2.1 c1).2.2.2.2.2.2.2.2.2.2.2.2.2.2.2.2.2.2.2.2.2.2.1 c2).2.2.2.2.1 ((h.2.1 c1).2.2.2.2.2.2.2.2.2.2.2.2.2.2.2.2.2.2.2.2.2.2.1 c2).2.2.2.2.2.1 ?_
      refine X_invV (ci := 12) (as := [vi (((48 * (V x0 9)) + x1) - 100)]) (st := []) okX12_startsHolder dX12_starts_126 km_RX12_419 rfl rfl (Nat.le_of_ble_eq_true rfl) rfl rfl h.1 (CT.imp ((h.2.1 c1).2.2.2.2.2.2.2.2.2.2.2.2.2.2.2.2.2.2.2.2.2.2.1 c2).2.2.2.2.2.2 (fun z3 S3 V3 mc3 ms3 hc4 => ?_))
      refine X_aload_n dX12_starts_129 rfl ?_
      refine X_dup dX12_starts_130 (rv_cat _) ?_
      refine X_getfield (ci := 12) (k := 64) (v := vi (V3 x0 64)) dX12_starts_131 rfl (by decide) kf_RX12_413 rfl hc4.1 ?_
      refine X_iconst dX12_starts_134 (by decide) ?_
      refine X_isubN dX12_starts_135 hc4.2.1 hc4.2.2.1 ?_
      refine X_putfield (ci := 12) (k := 64) (z := ((V3 x0 64) - 1)) dX12_starts_136 rfl (by decide) kf_RX12_413 (Or.inl rfl) (Or.inl rfl) rfl (fun hv => hv) hc4.1 ?_
      refine X_aload_n dX12_starts_139 rfl ?_
      refine X_getfield (ci := 12) (k := 52) (v := vr (V3 x0 52)) dX12_starts_140 rfl (by decide) kf_RX12_116 (congrArg vr (up_ne (Or.inr (by decide)))) hc4.1 ?_
      refine X_sipush dX12_starts_143 (by decide) (by decide) ?_
      refine X_aload_n dX12_starts_146 rfl ?_
      refine X_getfield (ci := 12) (k := 9) (v := vi (V3 x0 9)) dX12_starts_147 rfl (by decide) kf_RX12_263 (congrArg vi (up_ne (Or.inr (by decide)))) hc4.1 ?_
      refine X_imulN dX12_starts_150 hc4.2.2.2.1 hc4.2.2.2.2.1 ?_
      refine X_iload_n dX12_starts_151 rfl ?_
      refine X_iaddN dX12_starts_152 hc4.2.2.2.2.2.1 hc4.2.2.2.2.2.2.1 ?_
      refine X_aload_n dX12_starts_153 rfl ?_
      refine X_getfield (ci := 12) (k := 65) (v := vi (V3 x0 65)) dX12_starts_154 rfl (by decide) kf_RX12_401 (congrArg vi (up_ne (Or.inr (by decide)))) hc4.1 ?_
      refine X_if_eq dX12_starts_157 (tgt := 164) rfl (fun c5 => ?_) (fun c5 => ?_)
      · refine X_iconst dX12_starts_164 (by decide) ?_
        refine X_iastore dX12_starts_165 (hc4.2.2.2.2.2.2.2.1 c5).1 (hc4.2.2.2.2.2.2.2.1 c5).2.1 (hc4.2.2.2.2.2.2.2.1 c5).2.2.1 ?_
        refine X_aload_n dX12_starts_166 rfl ?_
        refine X_getfield (ci := 12) (k := 65) (v := vi (V3 x0 65)) dX12_starts_167 rfl (by decide) kf_RX12_401 (congrArg vi ((up_ne (Or.inl (tag_ne hc4.1 (hc4.2.2.2.2.2.2.2.1 c5).1 (by decide)))).trans (up_ne (Or.inr (by decide))))) hc4.1 ?_
        refine X_if_eq dX12_starts_170 (tgt := 203) rfl (fun c6 => ?_) (fun c6 => ?_)
        · exact X_ret (z := 0) dX12_starts_203 rfl (fun _ => trivial) ((hc4.2.2.2.2.2.2.2.1 c5).2.2.2.1 c6)
        · refine X_aload_n dX12_starts_173 rfl ?_
          refine X_getfield (ci := 12) (k := 66) (v := vr (V3 x0 66)) dX12_starts_174 rfl (by decide) kf_RX12_152 (congrArg vr ((up_ne (Or.inl (tag_ne hc4.1 (hc4.2.2.2.2.2.2.2.1 c5).1 (by decide)))).trans (up_ne (Or.inr (by decide))))) hc4.1 ?_
          refine X_aload_n dX12_starts_177 rfl ?_
          refine X_getfield (ci := 12) (k := 68) (v := vi (V3 x0 68)) dX12_starts_178 rfl (by decide) kf_RX12_404 (congrArg vi ((up_ne (Or.inl (tag_ne hc4.1 (hc4.2.2.2.2.2.2.2.1 c5).1 (by decide)))).trans (up_ne (Or.inr (by decide))))) hc4.1 ?_
          refine X_iconst dX12_starts_181 (by decide) ?_
          refine X_iastore dX12_starts_182 ((hc4.2.2.2.2.2.2.2.1 c5).2.2.2.2 c6).1 ((hc4.2.2.2.2.2.2.2.1 c5).2.2.2.2 c6).2.1 ((hc4.2.2.2.2.2.2.2.1 c5).2.2.2.2 c6).2.2.1 ?_
          refine X_aload_n dX12_starts_183 rfl ?_
          refine X_getfield (ci := 12) (k := 67) (v := vr (V3 x0 67)) dX12_starts_184 rfl (by decide) kf_RX12_155 (congrArg vr ((up_ne (Or.inl (tag_ne hc4.1 ((hc4.2.2.2.2.2.2.2.1 c5).2.2.2.2 c6).1 (by decide)))).trans ((up_ne (Or.inl (tag_ne hc4.1 (hc4.2.2.2.2.2.2.2.1 c5).1 (by decide)))).trans (up_ne (Or.inr (by decide)))))) hc4.1 ?_
          refine X_aload_n dX12_starts_187 rfl ?_
          refine X_getfield (ci := 12) (k := 68) (v := vi (V3 x0 68)) dX12_starts_188 rfl (by decide) kf_RX12_404 (congrArg vi ((up_ne (Or.inl (tag_ne hc4.1 ((hc4.2.2.2.2.2.2.2.1 c5).2.2.2.2 c6).1 (by decide)))).trans ((up_ne (Or.inl (tag_ne hc4.1 (hc4.2.2.2.2.2.2.2.1 c5).1 (by decide)))).trans (up_ne (Or.inr (by decide)))))) hc4.1 ?_
          refine X_iload_n dX12_starts_191 rfl ?_
          refine X_iastore dX12_starts_192 ((hc4.2.2.2.2.2.2.2.1 c5).2.2.2.2 c6).2.2.2.1 ((hc4.2.2.2.2.2.2.2.1 c5).2.2.2.2 c6).2.1 ((hc4.2.2.2.2.2.2.2.1 c5).2.2.2.2 c6).2.2.2.2.1 ?_
          refine X_aload_n dX12_starts_193 rfl ?_
          refine X_dup dX12_starts_194 (rv_cat _) ?_
          refine X_getfield (ci := 12) (k := 68) (v := vi (V3 x0 68)) dX12_starts_195 rfl (by decide) kf_RX12_404 (congrArg vi ((up_ne (Or.inl (tag_ne hc4.1 ((hc4.2.2.2.2.2.2.2.1 c5).2.2.2.2 c6).2.2.2.1 (by decide)))).trans ((up_ne (Or.inl (tag_ne hc4.1 ((hc4.2.2.2.2.2.2.2.1 c5).2.2.2.2 c6).1 (by decide)))).trans ((up_ne (Or.inl (tag_ne hc4.1 (hc4.2.2.2.2.2.2.2.1 c5).1 (by decide)))).trans (up_ne (Or.inr (by decide))))))) hc4.1 ?_
          refine X_iconst dX12_starts_198 (by decide) ?_
          refine X_iaddN dX12_starts_199 ((hc4.2.2.2.2.2.2.2.1 c5).2.2.2.2 c6).2.2.2.2.2.1 ((hc4.2.2.2.2.2.2.2.1 c5).2.2.2.2 c6).2.2.2.2.2.2.1 ?_
          refine X_putfield (ci := 12) (k := 68) (z := ((V3 x0 68) + 1)) dX12_starts_200 rfl (by decide) kf_RX12_404 (Or.inl rfl) (Or.inl rfl) rfl (fun hv => hv) hc4.1 ?_
          exact X_ret (z := 0) dX12_starts_203 rfl (fun _ => trivial) ((hc4.2.2.2.2.2.2.2.1 c5).2.2.2.2 c6).2.2.2.2.2.2.2
      · refine X_iconst dX12_starts_160 (by decide) ?_
        refine X_goto dX12_starts_161 (tgt := 165) rfl ?_
        refine X_iastore dX12_starts_165 (hc4.2.2.2.2.2.2.2.2 c5).1 (hc4.2.2.2.2.2.2.2.2 c5).2.1 (hc4.2.2.2.2.2.2.2.2 c5).2.2.1 ?_
        refine X_aload_n dX12_starts_166 rfl ?_
        refine X_getfield (ci := 12) (k := 65) (v := vi (V3 x0 65)) dX12_starts_167 rfl (by decide) kf_RX12_401 (congrArg vi ((up_ne (Or.inl (tag_ne hc4.1 (hc4.2.2.2.2.2.2.2.2 c5).1 (by decide)))).trans (up_ne (Or.inr (by decide))))) hc4.1 ?_
        refine X_if_eq dX12_starts_170 (tgt := 203) rfl (fun c7 => ?_) (fun c7 => ?_)
        · exact X_ret (z := 0) dX12_starts_203 rfl (fun _ => trivial) ((hc4.2.2.2.2.2.2.2.2 c5).2.2.2.1 c7)
        · refine X_aload_n dX12_starts_173 rfl ?_
          refine X_getfield (ci := 12) (k := 66) (v := vr (V3 x0 66)) dX12_starts_174 rfl (by decide) kf_RX12_152 (congrArg vr ((up_ne (Or.inl (tag_ne hc4.1 (hc4.2.2.2.2.2.2.2.2 c5).1 (by decide)))).trans (up_ne (Or.inr (by decide))))) hc4.1 ?_
          refine X_aload_n dX12_starts_177 rfl ?_
          refine X_getfield (ci := 12) (k := 68) (v := vi (V3 x0 68)) dX12_starts_178 rfl (by decide) kf_RX12_404 (congrArg vi ((up_ne (Or.inl (tag_ne hc4.1 (hc4.2.2.2.2.2.2.2.2 c5).1 (by decide)))).trans (up_ne (Or.inr (by decide))))) hc4.1 ?_
          refine X_iconst dX12_starts_181 (by decide) ?_
          refine X_iastore dX12_starts_182 ((hc4.2.2.2.2.2.2.2.2 c5).2.2.2.2 c7).1 ((hc4.2.2.2.2.2.2.2.2 c5).2.2.2.2 c7).2.1 ((hc4.2.2.2.2.2.2.2.2 c5).2.2.2.2 c7).2.2.1 ?_
          refine X_aload_n dX12_starts_183 rfl ?_
          refine X_getfield (ci := 12) (k := 67) (v := vr (V3 x0 67)) dX12_starts_184 rfl (by decide) kf_RX12_155 (congrArg vr ((up_ne (Or.inl (tag_ne hc4.1 ((hc4.2.2.2.2.2.2.2.2 c5).2.2.2.2 c7).1 (by decide)))).trans ((up_ne (Or.inl (tag_ne hc4.1 (hc4.2.2.2.2.2.2.2.2 c5).1 (by decide)))).trans (up_ne (Or.inr (by decide)))))) hc4.1 ?_
          refine X_aload_n dX12_starts_187 rfl ?_
          refine X_getfield (ci := 12) (k := 68) (v := vi (V3 x0 68)) dX12_starts_188 rfl (by decide) kf_RX12_404 (congrArg vi ((up_ne (Or.inl (tag_ne hc4.1 ((hc4.2.2.2.2.2.2.2.2 c5).2.2.2.2 c7).1 (by decide)))).trans ((up_ne (Or.inl (tag_ne hc4.1 (hc4.2.2.2.2.2.2.2.2 c5).1 (by decide)))).trans (up_ne (Or.inr (by decide)))))) hc4.1 ?_
          refine X_iload_n dX12_starts_191 rfl ?_
          refine X_iastore dX12_starts_192 ((hc4.2.2.2.2.2.2.2.2 c5).2.2.2.2 c7).2.2.2.1 ((hc4.2.2.2.2.2.2.2.2 c5).2.2.2.2 c7).2.1 ((hc4.2.2.2.2.2.2.2.2 c5).2.2.2.2 c7).2.2.2.2.1 ?_
          refine X_aload_n dX12_starts_193 rfl ?_
          refine X_dup dX12_starts_194 (rv_cat _) ?_
          refine X_getfield (ci := 12) (k := 68) (v := vi (V3 x0 68)) dX12_starts_195 rfl (by decide) kf_RX12_404 (congrArg vi ((up_ne (Or.inl (tag_ne hc4.1 ((hc4.2.2.2.2.2.2.2.2 c5).2.2.2.2 c7).2.2.2.1 (by decide)))).trans ((up_ne (Or.inl (tag_ne hc4.1 ((hc4.2.2.2.2.2.2.2.2 c5).2.2.2.2 c7).1 (by decide)))).trans ((up_ne (Or.inl (tag_ne hc4.1 (hc4.2.2.2.2.2.2.2.2 c5).1 (by decide)))).trans (up_ne (Or.inr (by decide))))))) hc4.1 ?_
          refine X_iconst dX12_starts_198 (by decide) ?_
          refine X_iaddN dX12_starts_199 ((hc4.2.2.2.2.2.2.2.2 c5).2.2.2.2 c7).2.2.2.2.2.1 ((hc4.2.2.2.2.2.2.2.2 c5).2.2.2.2 c7).2.2.2.2.2.2.1 ?_
          refine X_putfield (ci := 12) (k := 68) (z := ((V3 x0 68) + 1)) dX12_starts_200 rfl (by decide) kf_RX12_404 (Or.inl rfl) (Or.inl rfl) rfl (fun hv => hv) hc4.1 ?_
          exact X_ret (z := 0) dX12_starts_203 rfl (fun _ => trivial) ((hc4.2.2.2.2.2.2.2.2 c5).2.2.2.2 c7).2.2.2.2.2.2.2
    · refine X_aload_n dX12_starts_97 rfl ?_
      refine X_bipush dX12_starts_98 (by decide) (by decide) ?_
      refine X_aload_n dX12_starts_100 rfl ?_
      refine X_getfield (ci := 12) (k := 9) (v := vi (V x0 9)) dX12_starts_101 rfl (by decide) kf_RX12_263 (congrArg vi ((up_ne (Or.inr (by decide))).trans ((up_ne (Or.inl (tag_ne h.1 (h.2.1 c1).2.2.2.2.2.2.2.2.2.2.2.2.2.2.2.2.2.1 (by decide)))).trans ((up_ne (Or.inl (tag_ne h.1 (h.2.1 c1).2.2.2.2.2.2.2.1 (by decide)))).trans ((up_ne (Or.inl (tag_ne h.1 (h.2.1 c1).2.2.2.2.2.2.2.2.2.2.2.2.1 (by decide)))).trans (up_ne (Or.inl (tag_ne h.1 (h.2.1 c1).2.2.2.2.1 (by decide))))))))) h.1 ?_
      refine X_imulN dX12_starts_104 ((h.2.1 c1).2.2.2.2.2.2.2.2.2.2.2.2.2.2.2.2.2.2.2.2.2.2.2 c2).1 ((h.2.1 c1).2.2.2.2.2.2.2.2.2.2.2.2.2.2.2.2.2.2.2.2.2.2.2 c2).2.1 ?_
      refine X_iload_n dX12_starts_105 rfl ?_
      refine X_iaddN dX12_starts_106 ((h.2.1 c1).2.2.2.2.2.2.2.2.2.2.2.2.2.2.2.2.2.2.2.2.2.2.2 c2).2.2.1 ((h.2.1 c1).2.2.2.2.2.2.2.2.2.2.2.2.2.2.2.2.2.2.2.2.2.2.2 c2).2.2.2.1 ?_
      refine X_invV (ci := 12) (as := [vi ((12 * (V x0 9)) + x1)]) (st := []) okX12_startsEnum dX12_starts_107 km_RX12_416 rfl rfl (Nat.le_of_ble_eq_true rfl) rfl rfl h.1 (CT.imp ((h.2.1 c1).2.2.2.2.2.2.2.2.2.2.2.2.2.2.2.2.2.2.2.2.2.2.2 c2).2.2.2.2 (fun z8 S8 V8 mc8 ms8 hc9 => ?_))
      refine X_goto dX12_starts_110 (tgt := 129) rfl ?_
      refine X_aload_n dX12_starts_129 rfl ?_
      refine X_dup dX12_starts_130 (rv_cat _) ?_
      refine X_getfield (ci := 12) (k := 64) (v := vi (V8 x0 64)) dX12_starts_131 rfl (by decide) kf_RX12_413 rfl hc9.1 ?_
      refine X_iconst dX12_starts_134 (by decide) ?_
      refine X_isubN dX12_starts_135 hc9.2.1 hc9.2.2.1 ?_
      refine X_putfield (ci := 12) (k := 64) (z := ((V8 x0 64) - 1)) dX12_starts_136 rfl (by decide) kf_RX12_413 (Or.inl rfl) (Or.inl rfl) rfl (fun hv => hv) hc9.1 ?_
      refine X_aload_n dX12_starts_139 rfl ?_
      refine X_getfield (ci := 12) (k := 52) (v := vr (V8 x0 52)) dX12_starts_140 rfl (by decide) kf_RX12_116 (congrArg vr (up_ne (Or.inr (by decide)))) hc9.1 ?_
      refine X_sipush dX12_starts_143 (by decide) (by decide) ?_
      refine X_aload_n dX12_starts_146 rfl ?_
      refine X_getfield (ci := 12) (k := 9) (v := vi (V8 x0 9)) dX12_starts_147 rfl (by decide) kf_RX12_263 (congrArg vi (up_ne (Or.inr (by decide)))) hc9.1 ?_
      refine X_imulN dX12_starts_150 hc9.2.2.2.1 hc9.2.2.2.2.1 ?_
      refine X_iload_n dX12_starts_151 rfl ?_
      refine X_iaddN dX12_starts_152 hc9.2.2.2.2.2.1 hc9.2.2.2.2.2.2.1 ?_
      refine X_aload_n dX12_starts_153 rfl ?_
      refine X_getfield (ci := 12) (k := 65) (v := vi (V8 x0 65)) dX12_starts_154 rfl (by decide) kf_RX12_401 (congrArg vi (up_ne (Or.inr (by decide)))) hc9.1 ?_
      refine X_if_eq dX12_starts_157 (tgt := 164) rfl (fun c10 => ?_) (fun c10 => ?_)
      · refine X_iconst dX12_starts_164 (by decide) ?_
        refine X_iastore dX12_starts_165 (hc9.2.2.2.2.2.2.2.1 c10).1 (hc9.2.2.2.2.2.2.2.1 c10).2.1 (hc9.2.2.2.2.2.2.2.1 c10).2.2.1 ?_
        refine X_aload_n dX12_starts_166 rfl ?_
        refine X_getfield (ci := 12) (k := 65) (v := vi (V8 x0 65)) dX12_starts_167 rfl (by decide) kf_RX12_401 (congrArg vi ((up_ne (Or.inl (tag_ne hc9.1 (hc9.2.2.2.2.2.2.2.1 c10).1 (by decide)))).trans (up_ne (Or.inr (by decide))))) hc9.1 ?_
        refine X_if_eq dX12_starts_170 (tgt := 203) rfl (fun c11 => ?_) (fun c11 => ?_)
        · exact X_ret (z := 0) dX12_starts_203 rfl (fun _ => trivial) ((hc9.2.2.2.2.2.2.2.1 c10).2.2.2.1 c11)
        · refine X_aload_n dX12_starts_173 rfl ?_
          refine X_getfield (ci := 12) (k := 66) (v := vr (V8 x0 66)) dX12_starts_174 rfl (by decide) kf_RX12_152 (congrArg vr ((up_ne (Or.inl (tag_ne hc9.1 (hc9.2.2.2.2.2.2.2.1 c10).1 (by decide)))).trans (up_ne (Or.inr (by decide))))) hc9.1 ?_
          refine X_aload_n dX12_starts_177 rfl ?_
          refine X_getfield (ci := 12) (k := 68) (v := vi (V8 x0 68)) dX12_starts_178 rfl (by decide) kf_RX12_404 (congrArg vi ((up_ne (Or.inl (tag_ne hc9.1 (hc9.2.2.2.2.2.2.2.1 c10).1 (by decide)))).trans (up_ne (Or.inr (by decide))))) hc9.1 ?_
          refine X_iconst dX12_starts_181 (by decide) ?_
          refine X_iastore dX12_starts_182 ((hc9.2.2.2.2.2.2.2.1 c10).2.2.2.2 c11).1 ((hc9.2.2.2.2.2.2.2.1 c10).2.2.2.2 c11).2.1 ((hc9.2.2.2.2.2.2.2.1 c10).2.2.2.2 c11).2.2.1 ?_
          refine X_aload_n dX12_starts_183 rfl ?_
          refine X_getfield (ci := 12) (k := 67) (v := vr (V8 x0 67)) dX12_starts_184 rfl (by decide) kf_RX12_155 (congrArg vr ((up_ne (Or.inl (tag_ne hc9.1 ((hc9.2.2.2.2.2.2.2.1 c10).2.2.2.2 c11).1 (by decide)))).trans ((up_ne (Or.inl (tag_ne hc9.1 (hc9.2.2.2.2.2.2.2.1 c10).1 (by decide)))).trans (up_ne (Or.inr (by decide)))))) hc9.1 ?_
          refine X_aload_n dX12_starts_187 rfl ?_
          refine X_getfield (ci := 12) (k := 68) (v := vi (V8 x0 68)) dX12_starts_188 rfl (by decide) kf_RX12_404 (congrArg vi ((up_ne (Or.inl (tag_ne hc9.1 ((hc9.2.2.2.2.2.2.2.1 c10).2.2.2.2 c11).1 (by decide)))).trans ((up_ne (Or.inl (tag_ne hc9.1 (hc9.2.2.2.2.2.2.2.1 c10).1 (by decide)))).trans (up_ne (Or.inr (by decide)))))) hc9.1 ?_
          refine X_iload_n dX12_starts_191 rfl ?_
          refine X_iastore dX12_starts_192 ((hc9.2.2.2.2.2.2.2.1 c10).2.2.2.2 c11).2.2.2.1 ((hc9.2.2.2.2.2.2.2.1 c10).2.2.2.2 c11).2.1 ((hc9.2.2.2.2.2.2.2.1 c10).2.2.2.2 c11).2.2.2.2.1 ?_
          refine X_aload_n dX12_starts_193 rfl ?_
          refine X_dup dX12_starts_194 (rv_cat _) ?_
          refine X_getfield (ci := 12) (k := 68) (v := vi (V8 x0 68)) dX12_starts_195 rfl (by decide) kf_RX12_404 (congrArg vi ((up_ne (Or.inl (tag_ne hc9.1 ((hc9.2.2.2.2.2.2.2.1 c10).2.2.2.2 c11).2.2.2.1 (by decide)))).trans ((up_ne (Or.inl (tag_ne hc9.1 ((hc9.2.2.2.2.2.2.2.1 c10).2.2.2.2 c11).1 (by decide)))).trans ((up_ne (Or.inl (tag_ne hc9.1 (hc9.2.2.2.2.2.2.2.1 c10).1 (by decide)))).trans (up_ne (Or.inr (by decide))))))) hc9.1 ?_
          refine X_iconst dX12_starts_198 (by decide) ?_
          refine X_iaddN dX12_starts_199 ((hc9.2.2.2.2.2.2.2.1 c10).2.2.2.2 c11).2.2.2.2.2.1 ((hc9.2.2.2.2.2.2.2.1 c10).2.2.2.2 c11).2.2.2.2.2.2.1 ?_
          refine X_putfield (ci := 12) (k := 68) (z := ((V8 x0 68) + 1)) dX12_starts_200 rfl (by decide) kf_RX12_404 (Or.inl rfl) (Or.inl rfl) rfl (fun hv => hv) hc9.1 ?_
          exact X_ret (z := 0) dX12_starts_203 rfl (fun _ => trivial) ((hc9.2.2.2.2.2.2.2.1 c10).2.2.2.2 c11).2.2.2.2.2.2.2
      · refine X_iconst dX12_starts_160 (by decide) ?_
        refine X_goto dX12_starts_161 (tgt := 165) rfl ?_
        refine X_iastore dX12_starts_165 (hc9.2.2.2.2.2.2.2.2 c10).1 (hc9.2.2.2.2.2.2.2.2 c10).2.1 (hc9.2.2.2.2.2.2.2.2 c10).2.2.1 ?_
        refine X_aload_n dX12_starts_166 rfl ?_
        refine X_getfield (ci := 12) (k := 65) (v := vi (V8 x0 65)) dX12_starts_167 rfl (by decide) kf_RX12_401 (congrArg vi ((up_ne (Or.inl (tag_ne hc9.1 (hc9.2.2.2.2.2.2.2.2 c10).1 (by decide)))).trans (up_ne (Or.inr (by decide))))) hc9.1 ?_
        refine X_if_eq dX12_starts_170 (tgt := 203) rfl (fun c12 => ?_) (fun c12 => ?_)
        · exact X_ret (z := 0) dX12_starts_203 rfl (fun _ => trivial) ((hc9.2.2.2.2.2.2.2.2 c10).2.2.2.1 c12)
        · refine X_aload_n dX12_starts_173 rfl ?_
          refine X_getfield (ci := 12) (k := 66) (v := vr (V8 x0 66)) dX12_starts_174 rfl (by decide) kf_RX12_152 (congrArg vr ((up_ne (Or.inl (tag_ne hc9.1 (hc9.2.2.2.2.2.2.2.2 c10).1 (by decide)))).trans (up_ne (Or.inr (by decide))))) hc9.1 ?_
          refine X_aload_n dX12_starts_177 rfl ?_
          refine X_getfield (ci := 12) (k := 68) (v := vi (V8 x0 68)) dX12_starts_178 rfl (by decide) kf_RX12_404 (congrArg vi ((up_ne (Or.inl (tag_ne hc9.1 (hc9.2.2.2.2.2.2.2.2 c10).1 (by decide)))).trans (up_ne (Or.inr (by decide))))) hc9.1 ?_
          refine X_iconst dX12_starts_181 (by decide) ?_
          refine X_iastore dX12_starts_182 ((hc9.2.2.2.2.2.2.2.2 c10).2.2.2.2 c12).1 ((hc9.2.2.2.2.2.2.2.2 c10).2.2.2.2 c12).2.1 ((hc9.2.2.2.2.2.2.2.2 c10).2.2.2.2 c12).2.2.1 ?_
          refine X_aload_n dX12_starts_183 rfl ?_
          refine X_getfield (ci := 12) (k := 67) (v := vr (V8 x0 67)) dX12_starts_184 rfl (by decide) kf_RX12_155 (congrArg vr ((up_ne (Or.inl (tag_ne hc9.1 ((hc9.2.2.2.2.2.2.2.2 c10).2.2.2.2 c12).1 (by decide)))).trans ((up_ne (Or.inl (tag_ne hc9.1 (hc9.2.2.2.2.2.2.2.2 c10).1 (by decide)))).trans (up_ne (Or.inr (by decide)))))) hc9.1 ?_
          refine X_aload_n dX12_starts_187 rfl ?_
          refine X_getfield (ci := 12) (k := 68) (v := vi (V8 x0 68)) dX12_starts_188 rfl (by decide) kf_RX12_404 (congrArg vi ((up_ne (Or.inl (tag_ne hc9.1 ((hc9.2.2.2.2.2.2.2.2 c10).2.2.2.2 c12).1 (by decide)))).trans ((up_ne (Or.inl (tag_ne hc9.1 (hc9.2.2.2.2.2.2.2.2 c10).1 (by decide)))).trans (up_ne (Or.inr (by decide)))))) hc9.1 ?_
          refine X_iload_n dX12_starts_191 rfl ?_
          refine X_iastore dX12_starts_192 ((hc9.2.2.2.2.2.2.2.2 c10).2.2.2.2 c12).2.2.2.1 ((hc9.2.2.2.2.2.2.2.2 c10).2.2.2.2 c12).2.1 ((hc9.2.2.2.2.2.2.2.2 c10).2.2.2.2 c12).2.2.2.2.1 ?_
          refine X_aload_n dX12_starts_193 rfl ?_
          refine X_dup dX12_starts_194 (rv_cat _) ?_
          refine X_getfield (ci := 12) (k := 68) (v := vi (V8 x0 68)) dX12_starts_195 rfl (by decide) kf_RX12_404 (congrArg vi ((up_ne (Or.inl (tag_ne hc9.1 ((hc9.2.2.2.2.2.2.2.2 c10).2.2.2.2 c12).2.2.2.1 (by decide)))).trans ((up_ne (Or.inl (tag_ne hc9.1 ((hc9.2.2.2.2.2.2.2.2 c10).2.2.2.2 c12).1 (by decide)))).trans ((up_ne (Or.inl (tag_ne hc9.1 (hc9.2.2.2.2.2.2.2.2 c10).1 (by decide)))).trans (up_ne (Or.inr (by decide))))))) hc9.1 ?_
          refine X_iconst dX12_starts_198 (by decide) ?_
          refine X_iaddN dX12_starts_199 ((hc9.2.2.2.2.2.2.2.2 c10).2.2.2.2 c12).2.2.2.2.2.1 ((hc9.2.2.2.2.2.2.2.2 c10).2.2.2.2 c12).2.2.2.2.2.2.1 ?_
          refine X_putfield (ci := 12) (k := 68) (z := ((V8 x0 68) + 1)) dX12_starts_200 rfl (by decide) kf_RX12_404 (Or.inl rfl) (Or.inl rfl) rfl (fun hv => hv) hc9.1 ?_
          exact X_ret (z := 0) dX12_starts_203 rfl (fun _ => trivial) ((hc9.2.2.2.2.2.2.2.2 c10).2.2.2.2 c12).2.2.2.2.2.2.2
  · refine X_aload_n dX12_starts_9 rfl ?_
    refine X_bipush dX12_starts_10 (by decide) (by decide) ?_
    refine X_iconst dX12_starts_12 (by decide) ?_
    refine X_invV (ci := 12) (as := [vi 6, vi (-1)]) (st := []) okX12_failing dX12_starts_13 km_RX12_407 rfl rfl (Nat.le_of_ble_eq_true rfl) rfl rfl h.1 (CT.imp (h.2.2 c1) (fun z13 S13 V13 mc13 ms13 hc14 => ?_))
    refine X_istore_n dX12_starts_16 (by decide) rfl ?_
    exact X_ret (z := 0) dX12_starts_17 rfl (fun _ => trivial) hc14
theorem qX12_starts {l : Launch} {G : GT} {Q : Int → Sh → Mem → Prop} {d : Nat} {S : Sh} {V : Mem} {mc ms : Nat} {x0 x1 : Int} (h : 0 ≤ x0 → inI x1 → XJ l G bX12_starts Q d 0 [vr x0, vi x1, vu] [] S V mc ms) : Ct l G bX12_starts Q d mc ms [vr x0, vi x1] S V := Ct.of okX12_starts.1 trivial (Nat.le_of_ble_eq_true rfl) (fun hv => h (hv _ (List.mem_of_getElem? (i := 0) rfl)) (hv _ (List.mem_of_getElem? (i := 1) rfl)))
set_option maxRecDepth 10000 in
theorem vX12_startsHolder_0 {l : Launch} {G : GT} {Q : Int → Sh → Mem → Prop} {d : Nat} {S : Sh} {V : Mem} {mc ms : Nat} {x0 x1 : Int} (h : S.1 x0 = 13 ∧ S.1 (V x0 28) = 20 ∧ 0 ≤ x1 ∧ x1 < S.2.1 (V x0 28) ∧ CT l G bX12_value d mc ms [vr x0, vi (V (V x0 28) x1), vi (-1), vi (-1)] S V (fun z1 S1 V1 mc1 ms1 => S1.1 x0 = 13 ∧ ((V1 x0 65) ≠ 0 → Q 0 S1 V1) ∧ (¬ ((V1 x0 65) ≠ 0) → S1.1 (V1 x0 57) = 20 ∧ 0 ≤ x1 ∧ x1 < S1.2.1 (V1 x0 57) ∧ Q 0 S1 (up V1 (V1 x0 57) x1 z1)))) : XJ l G bX12_startsHolder Q d 0 [vr x0, vi x1, vu] [] S V mc ms := by
  refine X_aload_n dX12_startsHolder_0 rfl ?_
  refine X_aload_n dX12_startsHolder_1 rfl ?_
  refine X_getfield (ci := 12) (k := 28) (v := vr (V x0 28)) dX12_startsHolder_2 rfl (by decide) kf_RX12_71 rfl h.1 ?_
  refine X_iload_n dX12_startsHolder_5 rfl ?_
  refine X_iaload dX12_startsHolder_6 h.2.1 h.2.2.1 h.2.2.2.1 ?_
  refine X_iconst dX12_startsHolder_7 (by decide) ?_
  refine X_iconst dX12_startsHolder_8 (by decide) ?_
  refine X_invV (ci := 12) (as := [vi (V (V x0 28) x1), vi (-1), vi (-1)]) (st := []) okX12_value dX12_startsHolder_9 km_RX12_422 rfl rfl (Nat.le_of_ble_eq_true rfl) rfl rfl h.1 (CT.imp h.2.2.2.2 (fun z1 S1 V1 mc1 ms1 hc2 => ?_))
  refine X_istore_n dX12_startsHolder_12 (by decide) rfl ?_
  refine X_aload_n dX12_startsHolder_13 rfl ?_
  refine X_getfield (ci := 12) (k := 65) (v := vi (V1 x0 65)) dX12_startsHolder_14 rfl (by decide) kf_RX12_401 rfl hc2.1 ?_
  refine X_if_ne dX12_startsHolder_17 (tgt := 27) rfl (fun c3 => ?_) (fun c3 => ?_)
  · exact X_ret (z := 0) dX12_startsHolder_27 rfl (fun _ => trivial) (hc2.2.1 c3)
  · refine X_aload_n dX12_startsHolder_20 rfl ?_
    refine X_getfield (ci := 12) (k := 57) (v := vr (V1 x0 57)) dX12_startsHolder_21 rfl (by decide) kf_RX12_131 rfl hc2.1 ?_
    refine X_iload_n dX12_startsHolder_24 rfl ?_
    refine X_iload_n dX12_startsHolder_25 rfl ?_
    refine X_iastore dX12_startsHolder_26 (hc2.2.2 c3).1 (hc2.2.2 c3).2.1 (hc2.2.2 c3).2.2.1 ?_
    exact X_ret (z := 0) dX12_startsHolder_27 rfl (fun _ => trivial) (hc2.2.2 c3).2.2.2
theorem qX12_startsHolder {l : Launch} {G : GT} {Q : Int → Sh → Mem → Prop} {d : Nat} {S : Sh} {V : Mem} {mc ms : Nat} {x0 x1 : Int} (h : 0 ≤ x0 → inI x1 → XJ l G bX12_startsHolder Q d 0 [vr x0, vi x1, vu] [] S V mc ms) : Ct l G bX12_startsHolder Q d mc ms [vr x0, vi x1] S V := Ct.of okX12_startsHolder.1 trivial (Nat.le_of_ble_eq_true rfl) (fun hv => h (hv _ (List.mem_of_getElem? (i := 0) rfl)) (hv _ (List.mem_of_getElem? (i := 1) rfl)))
set_option maxRecDepth 10000 in
theorem vX12_startsEnum_0 {l : Launch} {G : GT} {Q : Int → Sh → Mem → Prop} {d : Nat} {S : Sh} {V : Mem} {mc ms : Nat} {x0 x1 : Int} (h : XJ l G bX12_startsEnum Q d 2 [vr x0, vi x1, vi 0, vu, vu] [] S V mc ms) : XJ l G bX12_startsEnum Q d 0 [vr x0, vi x1, vu, vu, vu] [] S V mc ms := by
  refine X_iconst dX12_startsEnum_0 (by decide) ?_
  refine X_istore_n dX12_startsEnum_1 (by decide) rfl ?_
  exact h
set_option maxRecDepth 10000 in
theorem vX12_startsEnum_2 {l : Launch} {G : GT} {Q : Int → Sh → Mem → Prop} {d : Nat} {S : Sh} {V : Mem} {mc ms : Nat} {x0 x1 x2 : Int} (h : S.1 x0 = 13 ∧ S.1 (V x0 14) = 20 ∧ 0 ≤ x1 ∧ x1 < S.2.1 (V x0 14) ∧ ((V (V x0 14) x1) ≤ x2 → -2147483648 ≤ 4 * x1 ∧ 4 * x1 ≤ 2147483647 ∧ XJ l G bX12_startsEnum Q d 83 [vr x0, vi x1, vi (4 * x1), vu, vu] [] S V mc ms) ∧ (¬ ((V (V x0 14) x1) ≤ x2) → -2147483648 ≤ 24 * x1 ∧ 24 * x1 ≤ 2147483647 ∧ -2147483648 ≤ (24 * x1) + x2 ∧ (24 * x1) + x2 ≤ 2147483647 ∧ S.1 (V x0 21) = 20 ∧ 0 ≤ ((24 * x1) + x2) ∧ ((24 * x1) + x2) < S.2.1 (V x0 21) ∧ ((V (V x0 21) ((24 * x1) + x2)) ≠ (-1) → CT l G bX12_value d mc ms [vr x0, vi (V (V x0 21) ((24 * x1) + x2)), vi ((24 * x1) + x2), vi (-1)] S V (fun z3 S3 V3 mc3 ms3 => S3.1 x0 = 13 ∧ ((V3 x0 65) = 0 → S3.1 (V3 x0 54) = 20 ∧ 0 ≤ ((24 * x1) + x2) ∧ ((24 * x1) + x2) < S3.2.1 (V3 x0 54) ∧ S3.1 (V3 x0 53) = 20 ∧ 0 ≤ x1 ∧ x1 < S3.2.1 (V3 x0 53) ∧ -2147483648 ≤ ((up V3 (V3 x0 54) ((24 * x1) + x2) z3) (V3 x0 53) x1) + 1 ∧ ((up V3 (V3 x0 54) ((24 * x1) + x2) z3) (V3 x0 53) x1) + 1 ≤ 2147483647 ∧ -2147483648 ≤ x2 + 1 ∧ x2 + 1 ≤ 2147483647 ∧ XJ l G bX12_startsEnum Q d 2 [vr x0, vi x1, vi (x2 + 1), vu, vu] [] S3 (up (up V3 (V3 x0 54) ((24 * x1) + x2) z3) (V3 x0 53) x1 (((up V3 (V3 x0 54) ((24 * x1) + x2) z3) (V3 x0 53) x1) + 1)) mc3 ms3) ∧ (¬ ((V3 x0 65) = 0) → Q 0 S3 V3))) ∧ (¬ ((V (V x0 21) ((24 * x1) + x2)) ≠ (-1)) → ((V x0 65) = 0 → S.1 (V x0 54) = 20 ∧ ((24 * x1) + x2) < S.2.1 (V x0 54) ∧ S.1 (V x0 53) = 20 ∧ x1 < S.2.1 (V x0 53) ∧ -2147483648 ≤ ((up V (V x0 54) ((24 * x1) + x2) 0) (V x0 53) x1) + 1 ∧ ((up V (V x0 54) ((24 * x1) + x2) 0) (V x0 53) x1) + 1 ≤ 2147483647 ∧ -2147483648 ≤ x2 + 1 ∧ x2 + 1 ≤ 2147483647 ∧ XJ l G bX12_startsEnum Q d 2 [vr x0, vi x1, vi (x2 + 1), vu, vu] [] S (up (up V (V x0 54) ((24 * x1) + x2) 0) (V x0 53) x1 (((up V (V x0 54) ((24 * x1) + x2) 0) (V x0 53) x1) + 1)) mc ms) ∧ (¬ ((V x0 65) = 0) → Q 0 S V)))) : XJ l G bX12_startsEnum Q d 2 [vr x0, vi x1, vi x2, vu, vu] [] S V mc ms := by
  refine X_iload_n dX12_startsEnum_2 rfl ?_
  refine X_aload_n dX12_startsEnum_3 rfl ?_
  refine X_getfield (ci := 12) (k := 14) (v := vr (V x0 14)) dX12_startsEnum_4 rfl (by decide) kf_RX12_29 rfl h.1 ?_
  refine X_iload_n dX12_startsEnum_7 rfl ?_
  refine X_iaload dX12_startsEnum_8 h.2.1 h.2.2.1 h.2.2.2.1 ?_
  refine X_icmp_ge dX12_startsEnum_9 (tgt := 79) rfl (fun c1 => ?_) (fun c1 => ?_)
  · refine X_iconst dX12_startsEnum_79 (by decide) ?_
    refine X_iload_n dX12_startsEnum_80 rfl ?_
    refine X_imulN dX12_startsEnum_81 (h.2.2.2.2.1 c1).1 (h.2.2.2.2.1 c1).2.1 ?_
    refine X_istore_n dX12_startsEnum_82 (by decide) rfl ?_
    exact (h.2.2.2.2.1 c1).2.2
  · refine X_bipush dX12_startsEnum_12 (by decide) (by decide) ?_
    refine X_iload_n dX12_startsEnum_14 rfl ?_
    refine X_imulN dX12_startsEnum_15 (h.2.2.2.2.2 c1).1 (h.2.2.2.2.2 c1).2.1 ?_
    refine X_iload_n dX12_startsEnum_16 rfl ?_
    refine X_iaddN dX12_startsEnum_17 (h.2.2.2.2.2 c1).2.2.1 (h.2.2.2.2.2 c1).2.2.2.1 ?_
    refine X_istore_n dX12_startsEnum_18 (by decide) rfl ?_
    refine X_aload_n dX12_startsEnum_19 rfl ?_
    refine X_getfield (ci := 12) (k := 21) (v := vr (V x0 21)) dX12_startsEnum_20 rfl (by decide) kf_RX12_50 rfl h.1 ?_
    refine X_iload_n dX12_startsEnum_23 rfl ?_
    refine X_iaload dX12_startsEnum_24 (h.2.2.2.2.2 c1).2.2.2.2.1 (h.2.2.2.2.2 c1).2.2.2.2.2.1 (h.2.2.2.2.2 c1).2.2.2.2.2.2.1 ?_
    refine X_iconst dX12_startsEnum_25 (by decide) ?_
    refine X_icmp_ne dX12_startsEnum_26 (tgt := 33) rfl (fun c2 => ?_) (fun c2 => ?_)
    · refine X_aload_n dX12_startsEnum_33 rfl ?_
      refine X_aload_n dX12_startsEnum_34 rfl ?_
      refine X_getfield (ci := 12) (k := 21) (v := vr (V x0 21)) dX12_startsEnum_35 rfl (by decide) kf_RX12_50 rfl h.1 ?_
      refine X_iload_n dX12_startsEnum_38 rfl ?_
      refine X_iaload dX12_startsEnum_39 (h.2.2.2.2.2 c1).2.2.2.2.1 (h.2.2.2.2.2 c1).2.2.2.2.2.1 (h.2.2.2.2.2 c1).2.2.2.2.2.2.1 ?_
      refine X_iload_n dX12_startsEnum_40 rfl ?_
      refine X_iconst dX12_startsEnum_41 (by decide) ?_
      refine X_invV (ci := 12) (as := [vi (V (V x0 21) ((24 * x1) + x2)), vi ((24 * x1) + x2), vi (-1)]) (st := []) okX12_value dX12_startsEnum_42 km_RX12_422 rfl rfl (Nat.le_of_ble_eq_true rfl) rfl rfl h.1 (CT.imp ((h.2.2.2.2.2 c1).2.2.2.2.2.2.2.1 c2) (fun z3 S3 V3 mc3 ms3 hc4 => ?_))
      refine X_istore dX12_startsEnum_45 (by decide) rfl ?_
      refine X_aload_n dX12_startsEnum_47 rfl ?_
      refine X_getfield (ci := 12) (k := 65) (v := vi (V3 x0 65)) dX12_startsEnum_48 rfl (by decide) kf_RX12_401 rfl hc4.1 ?_
      refine X_if_eq dX12_startsEnum_51 (tgt := 55) rfl (fun c5 => ?_) (fun c5 => ?_)
      · refine X_aload_n dX12_startsEnum_55 rfl ?_
        refine X_getfield (ci := 12) (k := 54) (v := vr (V3 x0 54)) dX12_startsEnum_56 rfl (by decide) kf_RX12_122 rfl hc4.1 ?_
        refine X_iload_n dX12_startsEnum_59 rfl ?_
        refine X_iload dX12_startsEnum_60 rfl ?_
        refine X_iastore dX12_startsEnum_62 (hc4.2.1 c5).1 (hc4.2.1 c5).2.1 (hc4.2.1 c5).2.2.1 ?_
        refine X_aload_n dX12_startsEnum_63 rfl ?_
        refine X_getfield (ci := 12) (k := 53) (v := vr (V3 x0 53)) dX12_startsEnum_64 rfl (by decide) kf_RX12_119 (congrArg vr (up_ne (Or.inl (tag_ne hc4.1 (hc4.2.1 c5).1 (by decide))))) hc4.1 ?_
        refine X_iload_n dX12_startsEnum_67 rfl ?_
        refine X_dup2 dX12_startsEnum_68 rfl (rv_cat _) ?_
        refine X_iaload dX12_startsEnum_69 (hc4.2.1 c5).2.2.2.1 (hc4.2.1 c5).2.2.2.2.1 (hc4.2.1 c5).2.2.2.2.2.1 ?_
        refine X_iconst dX12_startsEnum_70 (by decide) ?_
        refine X_iaddN dX12_startsEnum_71 (hc4.2.1 c5).2.2.2.2.2.2.1 (hc4.2.1 c5).2.2.2.2.2.2.2.1 ?_
        refine X_iastore dX12_startsEnum_72 (hc4.2.1 c5).2.2.2.1 (hc4.2.1 c5).2.2.2.2.1 (hc4.2.1 c5).2.2.2.2.2.1 ?_
        refine X_iincN dX12_startsEnum_73 rfl (by decide) rfl (e := x2 + 1) rfl (hc4.2.1 c5).2.2.2.2.2.2.2.2.1 (hc4.2.1 c5).2.2.2.2.2.2.2.2.2.1 ?_
        refine X_goto dX12_startsEnum_76 (tgt := 2) rfl ?_
        exact X_weak [false, false, false, true, true] (hc4.2.1 c5).2.2.2.2.2.2.2.2.2.2
      · exact X_ret (z := 0) dX12_startsEnum_54 rfl (fun _ => trivial) (hc4.2.2 c5)
    · refine X_iconst dX12_startsEnum_29 (by decide) ?_
      refine X_goto dX12_startsEnum_30 (tgt := 45) rfl ?_
      refine X_istore dX12_startsEnum_45 (by decide) rfl ?_
      refine X_aload_n dX12_startsEnum_47 rfl ?_
      refine X_getfield (ci := 12) (k := 65) (v := vi (V x0 65)) dX12_startsEnum_48 rfl (by decide) kf_RX12_401 rfl h.1 ?_
      refine X_if_eq dX12_startsEnum_51 (tgt := 55) rfl (fun c6 => ?_) (fun c6 => ?_)
      · refine X_aload_n dX12_startsEnum_55 rfl ?_
        refine X_getfield (ci := 12) (k := 54) (v := vr (V x0 54)) dX12_startsEnum_56 rfl (by decide) kf_RX12_122 rfl h.1 ?_
        refine X_iload_n dX12_startsEnum_59 rfl ?_
        refine X_iload dX12_startsEnum_60 rfl ?_
        refine X_iastore dX12_startsEnum_62 (((h.2.2.2.2.2 c1).2.2.2.2.2.2.2.2 c2).1 c6).1 (h.2.2.2.2.2 c1).2.2.2.2.2.1 (((h.2.2.2.2.2 c1).2.2.2.2.2.2.2.2 c2).1 c6).2.1 ?_
        refine X_aload_n dX12_startsEnum_63 rfl ?_
        refine X_getfield (ci := 12) (k := 53) (v := vr (V x0 53)) dX12_startsEnum_64 rfl (by decide) kf_RX12_119 (congrArg vr (up_ne (Or.inl (tag_ne h.1 (((h.2.2.2.2.2 c1).2.2.2.2.2.2.2.2 c2).1 c6).1 (by decide))))) h.1 ?_
        refine X_iload_n dX12_startsEnum_67 rfl ?_
        refine X_dup2 dX12_startsEnum_68 rfl (rv_cat _) ?_
        refine X_iaload dX12_startsEnum_69 (((h.2.2.2.2.2 c1).2.2.2.2.2.2.2.2 c2).1 c6).2.2.1 h.2.2.1 (((h.2.2.2.2.2 c1).2.2.2.2.2.2.2.2 c2).1 c6).2.2.2.1 ?_
        refine X_iconst dX12_startsEnum_70 (by decide) ?_
        refine X_iaddN dX12_startsEnum_71 (((h.2.2.2.2.2 c1).2.2.2.2.2.2.2.2 c2).1 c6).2.2.2.2.1 (((h.2.2.2.2.2 c1).2.2.2.2.2.2.2.2 c2).1 c6).2.2.2.2.2.1 ?_
        refine X_iastore dX12_startsEnum_72 (((h.2.2.2.2.2 c1).2.2.2.2.2.2.2.2 c2).1 c6).2.2.1 h.2.2.1 (((h.2.2.2.2.2 c1).2.2.2.2.2.2.2.2 c2).1 c6).2.2.2.1 ?_
        refine X_iincN dX12_startsEnum_73 rfl (by decide) rfl (e := x2 + 1) rfl (((h.2.2.2.2.2 c1).2.2.2.2.2.2.2.2 c2).1 c6).2.2.2.2.2.2.1 (((h.2.2.2.2.2 c1).2.2.2.2.2.2.2.2 c2).1 c6).2.2.2.2.2.2.2.1 ?_
        refine X_goto dX12_startsEnum_76 (tgt := 2) rfl ?_
        exact X_weak [false, false, false, true, true] (((h.2.2.2.2.2 c1).2.2.2.2.2.2.2.2 c2).1 c6).2.2.2.2.2.2.2.2
      · exact X_ret (z := 0) dX12_startsEnum_54 rfl (fun _ => trivial) (((h.2.2.2.2.2 c1).2.2.2.2.2.2.2.2 c2).2 c6)
set_option maxRecDepth 10000 in
theorem vX12_startsEnum_83 {l : Launch} {G : GT} {Q : Int → Sh → Mem → Prop} {d : Nat} {S : Sh} {V : Mem} {mc ms : Nat} {x0 x1 x2 : Int} (h : -2147483648 ≤ 4 * x1 ∧ 4 * x1 ≤ 2147483647 ∧ S.1 x0 = 13 ∧ S.1 (V x0 15) = 20 ∧ 0 ≤ x1 ∧ x1 < S.2.1 (V x0 15) ∧ -2147483648 ≤ (4 * x1) + (V (V x0 15) x1) ∧ (4 * x1) + (V (V x0 15) x1) ≤ 2147483647 ∧ (((4 * x1) + (V (V x0 15) x1)) ≤ x2 → XJ l G bX12_startsEnum Q d 173 [vr x0, vi x1, vi 0, vu, vu] [] S V mc ms) ∧ (¬ (((4 * x1) + (V (V x0 15) x1)) ≤ x2) → XJ l G bX12_startsEnum Q d 99 [vr x0, vi x1, vi x2, vi 0, vu] [] S V mc ms)) : XJ l G bX12_startsEnum Q d 83 [vr x0, vi x1, vi x2, vu, vu] [] S V mc ms := by
  refine X_iload_n dX12_startsEnum_83 rfl ?_
  refine X_iconst dX12_startsEnum_84 (by decide) ?_
  refine X_iload_n dX12_startsEnum_85 rfl ?_
  refine X_imulN dX12_startsEnum_86 h.1 h.2.1 ?_
  refine X_aload_n dX12_startsEnum_87 rfl ?_
  refine X_getfield (ci := 12) (k := 15) (v := vr (V x0 15)) dX12_startsEnum_88 rfl (by decide) kf_RX12_32 rfl h.2.2.1 ?_
  refine X_iload_n dX12_startsEnum_91 rfl ?_
  refine X_iaload dX12_startsEnum_92 h.2.2.2.1 h.2.2.2.2.1 h.2.2.2.2.2.1 ?_
  refine X_iaddN dX12_startsEnum_93 h.2.2.2.2.2.2.1 h.2.2.2.2.2.2.2.1 ?_
  refine X_icmp_ge dX12_startsEnum_94 (tgt := 171) rfl (fun c1 => ?_) (fun c1 => ?_)
  · refine X_iconst dX12_startsEnum_171 (by decide) ?_
    refine X_istore_n dX12_startsEnum_172 (by decide) rfl ?_
    exact (h.2.2.2.2.2.2.2.2.1 c1)
  · refine X_iconst dX12_startsEnum_97 (by decide) ?_
    refine X_istore_n dX12_startsEnum_98 (by decide) rfl ?_
    exact (h.2.2.2.2.2.2.2.2.2 c1)
set_option maxRecDepth 10000 in
theorem vX12_startsEnum_99 {l : Launch} {G : GT} {Q : Int → Sh → Mem → Prop} {d : Nat} {S : Sh} {V : Mem} {mc ms : Nat} {x0 x1 x2 x3 : Int} (h : S.1 x0 = 13 ∧ S.1 (V x0 24) = 20 ∧ 0 ≤ x2 ∧ x2 < S.2.1 (V x0 24) ∧ ((V (V x0 24) x2) ≤ x3 → -2147483648 ≤ x2 + 1 ∧ x2 + 1 ≤ 2147483647 ∧ XJ l G bX12_startsEnum Q d 83 [vr x0, vi x1, vi (x2 + 1), vu, vu] [] S V mc ms) ∧ (¬ ((V (V x0 24) x2) ≤ x3) → -2147483648 ≤ 12 * x2 ∧ 12 * x2 ≤ 2147483647 ∧ -2147483648 ≤ (12 * x2) + x3 ∧ (12 * x2) + x3 ≤ 2147483647 ∧ S.1 (V x0 25) = 20 ∧ 0 ≤ ((12 * x2) + x3) ∧ ((12 * x2) + x3) < S.2.1 (V x0 25) ∧ CT l G bX12_value d mc ms [vr x0, vi (V (V x0 25) ((12 * x2) + x3)), vi (-1), vi (-1)] S V (fun z2 S2 V2 mc2 ms2 => S2.1 x0 = 13 ∧ ((V2 x0 65) = 0 → -2147483648 ≤ 12 * x2 ∧ 12 * x2 ≤ 2147483647 ∧ -2147483648 ≤ (12 * x2) + x3 ∧ (12 * x2) + x3 ≤ 2147483647 ∧ S2.1 (V2 x0 56) = 20 ∧ 0 ≤ ((12 * x2) + x3) ∧ ((12 * x2) + x3) < S2.2.1 (V2 x0 56) ∧ S2.1 (V2 x0 55) = 20 ∧ 0 ≤ x2 ∧ x2 < S2.2.1 (V2 x0 55) ∧ -2147483648 ≤ ((up V2 (V2 x0 56) ((12 * x2) + x3) z2) (V2 x0 55) x2) + 1 ∧ ((up V2 (V2 x0 56) ((12 * x2) + x3) z2) (V2 x0 55) x2) + 1 ≤ 2147483647 ∧ -2147483648 ≤ x3 + 1 ∧ x3 + 1 ≤ 2147483647 ∧ XJ l G bX12_startsEnum Q d 99 [vr x0, vi x1, vi x2, vi (x3 + 1), vu] [] S2 (up (up V2 (V2 x0 56) ((12 * x2) + x3) z2) (V2 x0 55) x2 (((up V2 (V2 x0 56) ((12 * x2) + x3) z2) (V2 x0 55) x2) + 1)) mc2 ms2) ∧ (¬ ((V2 x0 65) = 0) → Q 0 S2 V2)))) : XJ l G bX12_startsEnum Q d 99 [vr x0, vi x1, vi x2, vi x3, vu] [] S V mc ms := by
  refine X_iload_n dX12_startsEnum_99 rfl ?_
  refine X_aload_n dX12_startsEnum_100 rfl ?_
  refine X_getfield (ci := 12) (k := 24) (v := vr (V x0 24)) dX12_startsEnum_101 rfl (by decide) kf_RX12_59 rfl h.1 ?_
  refine X_iload_n dX12_startsEnum_104 rfl ?_
  refine X_iaload dX12_startsEnum_105 h.2.1 h.2.2.1 h.2.2.2.1 ?_
  refine X_icmp_ge dX12_startsEnum_106 (tgt := 165) rfl (fun c1 => ?_) (fun c1 => ?_)
  · refine X_iincN dX12_startsEnum_165 rfl (by decide) rfl (e := x2 + 1) rfl (h.2.2.2.2.1 c1).1 (h.2.2.2.2.1 c1).2.1 ?_
    refine X_goto dX12_startsEnum_168 (tgt := 83) rfl ?_
    exact X_weak [false, false, false, true, false] (h.2.2.2.2.1 c1).2.2
  · refine X_aload_n dX12_startsEnum_109 rfl ?_
    refine X_aload_n dX12_startsEnum_110 rfl ?_
    refine X_getfield (ci := 12) (k := 25) (v := vr (V x0 25)) dX12_startsEnum_111 rfl (by decide) kf_RX12_62 rfl h.1 ?_
    refine X_bipush dX12_startsEnum_114 (by decide) (by decide) ?_
    refine X_iload_n dX12_startsEnum_116 rfl ?_
    refine X_imulN dX12_startsEnum_117 (h.2.2.2.2.2 c1).1 (h.2.2.2.2.2 c1).2.1 ?_
    refine X_iload_n dX12_startsEnum_118 rfl ?_
    refine X_iaddN dX12_startsEnum_119 (h.2.2.2.2.2 c1).2.2.1 (h.2.2.2.2.2 c1).2.2.2.1 ?_
    refine X_iaload dX12_startsEnum_120 (h.2.2.2.2.2 c1).2.2.2.2.1 (h.2.2.2.2.2 c1).2.2.2.2.2.1 (h.2.2.2.2.2 c1).2.2.2.2.2.2.1 ?_
    refine X_iconst dX12_startsEnum_121 (by decide) ?_
    refine X_iconst dX12_startsEnum_122 (by decide) ?_
    refine X_invV (ci := 12) (as := [vi (V (V x0 25) ((12 * x2) + x3)), vi (-1), vi (-1)]) (st := []) okX12_value dX12_startsEnum_123 km_RX12_422 rfl rfl (Nat.le_of_ble_eq_true rfl) rfl rfl h.1 (CT.imp (h.2.2.2.2.2 c1).2.2.2.2.2.2.2 (fun z2 S2 V2 mc2 ms2 hc3 => ?_))
    refine X_istore dX12_startsEnum_126 (by decide) rfl ?_
    refine X_aload_n dX12_startsEnum_128 rfl ?_
    refine X_getfield (ci := 12) (k := 65) (v := vi (V2 x0 65)) dX12_startsEnum_129 rfl (by decide) kf_RX12_401 rfl hc3.1 ?_
    refine X_if_eq dX12_startsEnum_132 (tgt := 136) rfl (fun c4 => ?_) (fun c4 => ?_)
    · refine X_aload_n dX12_startsEnum_136 rfl ?_
      refine X_getfield (ci := 12) (k := 56) (v := vr (V2 x0 56)) dX12_startsEnum_137 rfl (by decide) kf_RX12_128 rfl hc3.1 ?_
      refine X_bipush dX12_startsEnum_140 (by decide) (by decide) ?_
      refine X_iload_n dX12_startsEnum_142 rfl ?_
      refine X_imulN dX12_startsEnum_143 (hc3.2.1 c4).1 (hc3.2.1 c4).2.1 ?_
      refine X_iload_n dX12_startsEnum_144 rfl ?_
      refine X_iaddN dX12_startsEnum_145 (hc3.2.1 c4).2.2.1 (hc3.2.1 c4).2.2.2.1 ?_
      refine X_iload dX12_startsEnum_146 rfl ?_
      refine X_iastore dX12_startsEnum_148 (hc3.2.1 c4).2.2.2.2.1 (hc3.2.1 c4).2.2.2.2.2.1 (hc3.2.1 c4).2.2.2.2.2.2.1 ?_
      refine X_aload_n dX12_startsEnum_149 rfl ?_
      refine X_getfield (ci := 12) (k := 55) (v := vr (V2 x0 55)) dX12_startsEnum_150 rfl (by decide) kf_RX12_125 (congrArg vr (up_ne (Or.inl (tag_ne hc3.1 (hc3.2.1 c4).2.2.2.2.1 (by decide))))) hc3.1 ?_
      refine X_iload_n dX12_startsEnum_153 rfl ?_
      refine X_dup2 dX12_startsEnum_154 rfl (rv_cat _) ?_
      refine X_iaload dX12_startsEnum_155 (hc3.2.1 c4).2.2.2.2.2.2.2.1 (hc3.2.1 c4).2.2.2.2.2.2.2.2.1 (hc3.2.1 c4).2.2.2.2.2.2.2.2.2.1 ?_
      refine X_iconst dX12_startsEnum_156 (by decide) ?_
      refine X_iaddN dX12_startsEnum_157 (hc3.2.1 c4).2.2.2.2.2.2.2.2.2.2.1 (hc3.2.1 c4).2.2.2.2.2.2.2.2.2.2.2.1 ?_
      refine X_iastore dX12_startsEnum_158 (hc3.2.1 c4).2.2.2.2.2.2.2.1 (hc3.2.1 c4).2.2.2.2.2.2.2.2.1 (hc3.2.1 c4).2.2.2.2.2.2.2.2.2.1 ?_
      refine X_iincN dX12_startsEnum_159 rfl (by decide) rfl (e := x3 + 1) rfl (hc3.2.1 c4).2.2.2.2.2.2.2.2.2.2.2.2.1 (hc3.2.1 c4).2.2.2.2.2.2.2.2.2.2.2.2.2.1 ?_
      refine X_goto dX12_startsEnum_162 (tgt := 99) rfl ?_
      exact X_weak [false, false, false, false, true] (hc3.2.1 c4).2.2.2.2.2.2.2.2.2.2.2.2.2.2
    · exact X_ret (z := 0) dX12_startsEnum_135 rfl (fun _ => trivial) (hc3.2.2 c4)
set_option maxRecDepth 10000 in
theorem vX12_startsEnum_173 {l : Launch} {G : GT} {Q : Int → Sh → Mem → Prop} {d : Nat} {S : Sh} {V : Mem} {mc ms : Nat} {x0 x1 x2 : Int} (h : S.1 x0 = 13 ∧ S.1 (V x0 16) = 20 ∧ 0 ≤ x1 ∧ x1 < S.2.1 (V x0 16) ∧ ((V (V x0 16) x1) ≤ x2 → Q 0 S V) ∧ (¬ ((V (V x0 16) x1) ≤ x2) → -2147483648 ≤ 3 * x1 ∧ 3 * x1 ≤ 2147483647 ∧ -2147483648 ≤ (3 * x1) + x2 ∧ (3 * x1) + x2 ≤ 2147483647 ∧ S.1 (V x0 26) = 20 ∧ 0 ≤ ((3 * x1) + x2) ∧ ((3 * x1) + x2) < S.2.1 (V x0 26) ∧ CT l G bX12_value d mc ms [vr x0, vi (V (V x0 26) ((3 * x1) + x2)), vi (-1), vi (-1)] S V (fun z2 S2 V2 mc2 ms2 => S2.1 x0 = 13 ∧ ((V2 x0 65) = 0 → (z2 ≠ 0 → -2147483648 ≤ x2 + 1 ∧ x2 + 1 ≤ 2147483647 ∧ XJ l G bX12_startsEnum Q d 173 [vr x0, vi x1, vi (x2 + 1), vu, vu] [] S2 V2 mc2 ms2) ∧ (¬ (z2 ≠ 0) → CT l G bX12_failing d mc2 ms2 [vr x0, vi 3, vi (-1)] S2 V2 (fun z6 S6 V6 mc6 ms6 => Q 0 S6 V6))) ∧ (¬ ((V2 x0 65) = 0) → Q 0 S2 V2)))) : XJ l G bX12_startsEnum Q d 173 [vr x0, vi x1, vi x2, vu, vu] [] S V mc ms := by
  refine X_iload_n dX12_startsEnum_173 rfl ?_
  refine X_aload_n dX12_startsEnum_174 rfl ?_
  refine X_getfield (ci := 12) (k := 16) (v := vr (V x0 16)) dX12_startsEnum_175 rfl (by decide) kf_RX12_35 rfl h.1 ?_
  refine X_iload_n dX12_startsEnum_178 rfl ?_
  refine X_iaload dX12_startsEnum_179 h.2.1 h.2.2.1 h.2.2.2.1 ?_
  refine X_icmp_ge dX12_startsEnum_180 (tgt := 227) rfl (fun c1 => ?_) (fun c1 => ?_)
  · exact X_ret (z := 0) dX12_startsEnum_227 rfl (fun _ => trivial) (h.2.2.2.2.1 c1)
  · refine X_aload_n dX12_startsEnum_183 rfl ?_
    refine X_aload_n dX12_startsEnum_184 rfl ?_
    refine X_getfield (ci := 12) (k := 26) (v := vr (V x0 26)) dX12_startsEnum_185 rfl (by decide) kf_RX12_65 rfl h.1 ?_
    refine X_iconst dX12_startsEnum_188 (by decide) ?_
    refine X_iload_n dX12_startsEnum_189 rfl ?_
    refine X_imulN dX12_startsEnum_190 (h.2.2.2.2.2 c1).1 (h.2.2.2.2.2 c1).2.1 ?_
    refine X_iload_n dX12_startsEnum_191 rfl ?_
    refine X_iaddN dX12_startsEnum_192 (h.2.2.2.2.2 c1).2.2.1 (h.2.2.2.2.2 c1).2.2.2.1 ?_
    refine X_iaload dX12_startsEnum_193 (h.2.2.2.2.2 c1).2.2.2.2.1 (h.2.2.2.2.2 c1).2.2.2.2.2.1 (h.2.2.2.2.2 c1).2.2.2.2.2.2.1 ?_
    refine X_iconst dX12_startsEnum_194 (by decide) ?_
    refine X_iconst dX12_startsEnum_195 (by decide) ?_
    refine X_invV (ci := 12) (as := [vi (V (V x0 26) ((3 * x1) + x2)), vi (-1), vi (-1)]) (st := []) okX12_value dX12_startsEnum_196 km_RX12_422 rfl rfl (Nat.le_of_ble_eq_true rfl) rfl rfl h.1 (CT.imp (h.2.2.2.2.2 c1).2.2.2.2.2.2.2 (fun z2 S2 V2 mc2 ms2 hc3 => ?_))
    refine X_istore_n dX12_startsEnum_199 (by decide) rfl ?_
    refine X_aload_n dX12_startsEnum_200 rfl ?_
    refine X_getfield (ci := 12) (k := 65) (v := vi (V2 x0 65)) dX12_startsEnum_201 rfl (by decide) kf_RX12_401 rfl hc3.1 ?_
    refine X_if_eq dX12_startsEnum_204 (tgt := 208) rfl (fun c4 => ?_) (fun c4 => ?_)
    · refine X_iload_n dX12_startsEnum_208 rfl ?_
      refine X_if_ne dX12_startsEnum_209 (tgt := 221) rfl (fun c5 => ?_) (fun c5 => ?_)
      · refine X_iincN dX12_startsEnum_221 rfl (by decide) rfl (e := x2 + 1) rfl ((hc3.2.1 c4).1 c5).1 ((hc3.2.1 c4).1 c5).2.1 ?_
        refine X_goto dX12_startsEnum_224 (tgt := 173) rfl ?_
        exact X_weak [false, false, false, true, false] ((hc3.2.1 c4).1 c5).2.2
      · refine X_aload_n dX12_startsEnum_212 rfl ?_
        refine X_iconst dX12_startsEnum_213 (by decide) ?_
        refine X_iconst dX12_startsEnum_214 (by decide) ?_
        refine X_invV (ci := 12) (as := [vi 3, vi (-1)]) (st := []) okX12_failing dX12_startsEnum_215 km_RX12_407 rfl rfl (Nat.le_of_ble_eq_true rfl) rfl rfl hc3.1 (CT.imp ((hc3.2.1 c4).2 c5) (fun z6 S6 V6 mc6 ms6 hc7 => ?_))
        refine X_istore dX12_startsEnum_218 (by decide) rfl ?_
        exact X_ret (z := 0) dX12_startsEnum_220 rfl (fun _ => trivial) hc7
    · exact X_ret (z := 0) dX12_startsEnum_207 rfl (fun _ => trivial) (hc3.2.2 c4)
theorem qX12_startsEnum {l : Launch} {G : GT} {Q : Int → Sh → Mem → Prop} {d : Nat} {S : Sh} {V : Mem} {mc ms : Nat} {x0 x1 : Int} (h : 0 ≤ x0 → inI x1 → XJ l G bX12_startsEnum Q d 0 [vr x0, vi x1, vu, vu, vu] [] S V mc ms) : Ct l G bX12_startsEnum Q d mc ms [vr x0, vi x1] S V := Ct.of okX12_startsEnum.1 trivial (Nat.le_of_ble_eq_true rfl) (fun hv => h (hv _ (List.mem_of_getElem? (i := 0) rfl)) (hv _ (List.mem_of_getElem? (i := 1) rfl)))
set_option maxRecDepth 10000 in
theorem vX12_sees_0 {l : Launch} {G : GT} {Q : Int → Sh → Mem → Prop} {d : Nat} {S : Sh} {V : Mem} {mc ms : Nat} {x0 x1 x2 : Int} (h : S.1 x0 = 13 ∧ -2147483648 ≤ 3100 * (V x0 9) ∧ 3100 * (V x0 9) ≤ 2147483647 ∧ S.1 (V x0 62) = 20 ∧ 0 ≤ (V x0 9) ∧ (V x0 9) < S.2.1 (V x0 62) ∧ -2147483648 ≤ (3100 * (V x0 9)) + (V (V x0 62) (V x0 9)) ∧ (3100 * (V x0 9)) + (V (V x0 62) (V x0 9)) ≤ 2147483647 ∧ ((V x0 64) ≠ 0 → -2147483648 ≤ (V x0 64) - 1 ∧ (V x0 64) - 1 ≤ 2147483647 ∧ S.1 (V x0 63) = 20 ∧ 0 ≤ ((V x0 64) - 1) ∧ ((V x0 64) - 1) < S.2.1 (V x0 63) ∧ S.1 (V x0 60) = 20 ∧ 0 ≤ ((3100 * (V x0 9)) + (V (V x0 62) (V x0 9))) ∧ ((3100 * (V x0 9)) + (V (V x0 62) (V x0 9))) < S.2.1 (V x0 60) ∧ S.1 (V x0 61) = 20 ∧ ((3100 * (V x0 9)) + (V (V x0 62) (V x0 9))) < S.2.1 (V x0 61) ∧ -2147483648 ≤ ((up (up V (V x0 60) ((3100 * (V x0 9)) + (V (V x0 62) (V x0 9))) (V (V x0 63) ((V x0 64) - 1))) (V x0 61) ((3100 * (V x0 9)) + (V (V x0 62) (V x0 9))) x1) (V x0 62) (V x0 9)) + 1 ∧ ((up (up V (V x0 60) ((3100 * (V x0 9)) + (V (V x0 62) (V x0 9))) (V (V x0 63) ((V x0 64) - 1))) (V x0 61) ((3100 * (V x0 9)) + (V (V x0 62) (V x0 9))) x1) (V x0 62) (V x0 9)) + 1 ≤ 2147483647 ∧ Q x2 S (up (up (up V (V x0 60) ((3100 * (V x0 9)) + (V (V x0 62) (V x0 9))) (V (V x0 63) ((V x0 64) - 1))) (V x0 61) ((3100 * (V x0 9)) + (V (V x0 62) (V x0 9))) x1) (V x0 62) (V x0 9) (((up (up V (V x0 60) ((3100 * (V x0 9)) + (V (V x0 62) (V x0 9))) (V (V x0 63) ((V x0 64) - 1))) (V x0 61) ((3100 * (V x0 9)) + (V (V x0 62) (V x0 9))) x1) (V x0 62) (V x0 9)) + 1))) ∧ (¬ ((V x0 64) ≠ 0) → S.1 (V x0 60) = 20 ∧ 0 ≤ ((3100 * (V x0 9)) + (V (V x0 62) (V x0 9))) ∧ ((3100 * (V x0 9)) + (V (V x0 62) (V x0 9))) < S.2.1 (V x0 60) ∧ S.1 (V x0 61) = 20 ∧ ((3100 * (V x0 9)) + (V (V x0 62) (V x0 9))) < S.2.1 (V x0 61) ∧ -2147483648 ≤ ((up (up V (V x0 60) ((3100 * (V x0 9)) + (V (V x0 62) (V x0 9))) (-1)) (V x0 61) ((3100 * (V x0 9)) + (V (V x0 62) (V x0 9))) x1) (V x0 62) (V x0 9)) + 1 ∧ ((up (up V (V x0 60) ((3100 * (V x0 9)) + (V (V x0 62) (V x0 9))) (-1)) (V x0 61) ((3100 * (V x0 9)) + (V (V x0 62) (V x0 9))) x1) (V x0 62) (V x0 9)) + 1 ≤ 2147483647 ∧ Q x2 S (up (up (up V (V x0 60) ((3100 * (V x0 9)) + (V (V x0 62) (V x0 9))) (-1)) (V x0 61) ((3100 * (V x0 9)) + (V (V x0 62) (V x0 9))) x1) (V x0 62) (V x0 9) (((up (up V (V x0 60) ((3100 * (V x0 9)) + (V (V x0 62) (V x0 9))) (-1)) (V x0 61) ((3100 * (V x0 9)) + (V (V x0 62) (V x0 9))) x1) (V x0 62) (V x0 9)) + 1)))) : XJ l G bX12_sees Q d 0 [vr x0, vi x1, vi x2, vu] [] S V mc ms := by
  refine X_sipush dX12_sees_0 (by decide) (by decide) ?_
  refine X_aload_n dX12_sees_3 rfl ?_
  refine X_getfield (ci := 12) (k := 9) (v := vi (V x0 9)) dX12_sees_4 rfl (by decide) kf_RX12_263 rfl h.1 ?_
  refine X_imulN dX12_sees_7 h.2.1 h.2.2.1 ?_
  refine X_aload_n dX12_sees_8 rfl ?_
  refine X_getfield (ci := 12) (k := 62) (v := vr (V x0 62)) dX12_sees_9 rfl (by decide) kf_RX12_146 rfl h.1 ?_
  refine X_aload_n dX12_sees_12 rfl ?_
  refine X_getfield (ci := 12) (k := 9) (v := vi (V x0 9)) dX12_sees_13 rfl (by decide) kf_RX12_263 rfl h.1 ?_
  refine X_iaload dX12_sees_16 h.2.2.2.1 h.2.2.2.2.1 h.2.2.2.2.2.1 ?_
  refine X_iaddN dX12_sees_17 h.2.2.2.2.2.2.1 h.2.2.2.2.2.2.2.1 ?_
  refine X_istore_n dX12_sees_18 (by decide) rfl ?_
  refine X_aload_n dX12_sees_19 rfl ?_
  refine X_getfield (ci := 12) (k := 60) (v := vr (V x0 60)) dX12_sees_20 rfl (by decide) kf_RX12_140 rfl h.1 ?_
  refine X_iload_n dX12_sees_23 rfl ?_
  refine X_aload_n dX12_sees_24 rfl ?_
  refine X_getfield (ci := 12) (k := 64) (v := vi (V x0 64)) dX12_sees_25 rfl (by decide) kf_RX12_413 rfl h.1 ?_
  refine X_if_ne dX12_sees_28 (tgt := 35) rfl (fun c1 => ?_) (fun c1 => ?_)
  · refine X_aload_n dX12_sees_35 rfl ?_
    refine X_getfield (ci := 12) (k := 63) (v := vr (V x0 63)) dX12_sees_36 rfl (by decide) kf_RX12_149 rfl h.1 ?_
    refine X_aload_n dX12_sees_39 rfl ?_
    refine X_getfield (ci := 12) (k := 64) (v := vi (V x0 64)) dX12_sees_40 rfl (by decide) kf_RX12_413 rfl h.1 ?_
    refine X_iconst dX12_sees_43 (by decide) ?_
    refine X_isubN dX12_sees_44 (h.2.2.2.2.2.2.2.2.1 c1).1 (h.2.2.2.2.2.2.2.2.1 c1).2.1 ?_
    refine X_iaload dX12_sees_45 (h.2.2.2.2.2.2.2.2.1 c1).2.2.1 (h.2.2.2.2.2.2.2.2.1 c1).2.2.2.1 (h.2.2.2.2.2.2.2.2.1 c1).2.2.2.2.1 ?_
    refine X_iastore dX12_sees_46 (h.2.2.2.2.2.2.2.2.1 c1).2.2.2.2.2.1 (h.2.2.2.2.2.2.2.2.1 c1).2.2.2.2.2.2.1 (h.2.2.2.2.2.2.2.2.1 c1).2.2.2.2.2.2.2.1 ?_
    refine X_aload_n dX12_sees_47 rfl ?_
    refine X_getfield (ci := 12) (k := 61) (v := vr (V x0 61)) dX12_sees_48 rfl (by decide) kf_RX12_143 (congrArg vr (up_ne (Or.inl (tag_ne h.1 (h.2.2.2.2.2.2.2.2.1 c1).2.2.2.2.2.1 (by decide))))) h.1 ?_
    refine X_iload_n dX12_sees_51 rfl ?_
    refine X_iload_n dX12_sees_52 rfl ?_
    refine X_iastore dX12_sees_53 (h.2.2.2.2.2.2.2.2.1 c1).2.2.2.2.2.2.2.2.1 (h.2.2.2.2.2.2.2.2.1 c1).2.2.2.2.2.2.1 (h.2.2.2.2.2.2.2.2.1 c1).2.2.2.2.2.2.2.2.2.1 ?_
    refine X_aload_n dX12_sees_54 rfl ?_
    refine X_getfield (ci := 12) (k := 62) (v := vr (V x0 62)) dX12_sees_55 rfl (by decide) kf_RX12_146 (congrArg vr ((up_ne (Or.inl (tag_ne h.1 (h.2.2.2.2.2.2.2.2.1 c1).2.2.2.2.2.2.2.2.1 (by decide)))).trans (up_ne (Or.inl (tag_ne h.1 (h.2.2.2.2.2.2.2.2.1 c1).2.2.2.2.2.1 (by decide)))))) h.1 ?_
    refine X_aload_n dX12_sees_58 rfl ?_
    refine X_getfield (ci := 12) (k := 9) (v := vi (V x0 9)) dX12_sees_59 rfl (by decide) kf_RX12_263 (congrArg vi ((up_ne (Or.inl (tag_ne h.1 (h.2.2.2.2.2.2.2.2.1 c1).2.2.2.2.2.2.2.2.1 (by decide)))).trans (up_ne (Or.inl (tag_ne h.1 (h.2.2.2.2.2.2.2.2.1 c1).2.2.2.2.2.1 (by decide)))))) h.1 ?_
    refine X_dup2 dX12_sees_62 rfl (rv_cat _) ?_
    refine X_iaload dX12_sees_63 h.2.2.2.1 h.2.2.2.2.1 h.2.2.2.2.2.1 ?_
    refine X_iconst dX12_sees_64 (by decide) ?_
    refine X_iaddN dX12_sees_65 (h.2.2.2.2.2.2.2.2.1 c1).2.2.2.2.2.2.2.2.2.2.1 (h.2.2.2.2.2.2.2.2.1 c1).2.2.2.2.2.2.2.2.2.2.2.1 ?_
    refine X_iastore dX12_sees_66 h.2.2.2.1 h.2.2.2.2.1 h.2.2.2.2.2.1 ?_
    refine X_iload_n dX12_sees_67 rfl ?_
    exact X_ret (z := x2) dX12_sees_68 rfl (fun hv => vok_h hv) (h.2.2.2.2.2.2.2.2.1 c1).2.2.2.2.2.2.2.2.2.2.2.2
  · refine X_iconst dX12_sees_31 (by decide) ?_
    refine X_goto dX12_sees_32 (tgt := 46) rfl ?_
    refine X_iastore dX12_sees_46 (h.2.2.2.2.2.2.2.2.2 c1).1 (h.2.2.2.2.2.2.2.2.2 c1).2.1 (h.2.2.2.2.2.2.2.2.2 c1).2.2.1 ?_
    refine X_aload_n dX12_sees_47 rfl ?_
    refine X_getfield (ci := 12) (k := 61) (v := vr (V x0 61)) dX12_sees_48 rfl (by decide) kf_RX12_143 (congrArg vr (up_ne (Or.inl (tag_ne h.1 (h.2.2.2.2.2.2.2.2.2 c1).1 (by decide))))) h.1 ?_
    refine X_iload_n dX12_sees_51 rfl ?_
    refine X_iload_n dX12_sees_52 rfl ?_
    refine X_iastore dX12_sees_53 (h.2.2.2.2.2.2.2.2.2 c1).2.2.2.1 (h.2.2.2.2.2.2.2.2.2 c1).2.1 (h.2.2.2.2.2.2.2.2.2 c1).2.2.2.2.1 ?_
    refine X_aload_n dX12_sees_54 rfl ?_
    refine X_getfield (ci := 12) (k := 62) (v := vr (V x0 62)) dX12_sees_55 rfl (by decide) kf_RX12_146 (congrArg vr ((up_ne (Or.inl (tag_ne h.1 (h.2.2.2.2.2.2.2.2.2 c1).2.2.2.1 (by decide)))).trans (up_ne (Or.inl (tag_ne h.1 (h.2.2.2.2.2.2.2.2.2 c1).1 (by decide)))))) h.1 ?_
    refine X_aload_n dX12_sees_58 rfl ?_
    refine X_getfield (ci := 12) (k := 9) (v := vi (V x0 9)) dX12_sees_59 rfl (by decide) kf_RX12_263 (congrArg vi ((up_ne (Or.inl (tag_ne h.1 (h.2.2.2.2.2.2.2.2.2 c1).2.2.2.1 (by decide)))).trans (up_ne (Or.inl (tag_ne h.1 (h.2.2.2.2.2.2.2.2.2 c1).1 (by decide)))))) h.1 ?_
    refine X_dup2 dX12_sees_62 rfl (rv_cat _) ?_
    refine X_iaload dX12_sees_63 h.2.2.2.1 h.2.2.2.2.1 h.2.2.2.2.2.1 ?_
    refine X_iconst dX12_sees_64 (by decide) ?_
    refine X_iaddN dX12_sees_65 (h.2.2.2.2.2.2.2.2.2 c1).2.2.2.2.2.1 (h.2.2.2.2.2.2.2.2.2 c1).2.2.2.2.2.2.1 ?_
    refine X_iastore dX12_sees_66 h.2.2.2.1 h.2.2.2.2.1 h.2.2.2.2.2.1 ?_
    refine X_iload_n dX12_sees_67 rfl ?_
    exact X_ret (z := x2) dX12_sees_68 rfl (fun hv => vok_h hv) (h.2.2.2.2.2.2.2.2.2 c1).2.2.2.2.2.2.2
theorem qX12_sees {l : Launch} {G : GT} {Q : Int → Sh → Mem → Prop} {d : Nat} {S : Sh} {V : Mem} {mc ms : Nat} {x0 x1 x2 : Int} (h : 0 ≤ x0 → inI x1 → inI x2 → XJ l G bX12_sees Q d 0 [vr x0, vi x1, vi x2, vu] [] S V mc ms) : Ct l G bX12_sees Q d mc ms [vr x0, vi x1, vi x2] S V := Ct.of okX12_sees.1 trivial (Nat.le_of_ble_eq_true rfl) (fun hv => h (hv _ (List.mem_of_getElem? (i := 0) rfl)) (hv _ (List.mem_of_getElem? (i := 1) rfl)) (hv _ (List.mem_of_getElem? (i := 2) rfl)))
set_option maxRecDepth 10000 in
theorem vX12_value_0 {l : Launch} {G : GT} {Q : Int → Sh → Mem → Prop} {d : Nat} {S : Sh} {V : Mem} {mc ms : Nat} {x0 x1 x2 x3 : Int} (h : S.1 x0 = 13 ∧ ((V x0 65) = 0 → S.1 (V x0 36) = 20 ∧ 0 ≤ x1 ∧ x1 < S.2.1 (V x0 36) ∧ S.1 (V x0 35) = 20 ∧ x1 < S.2.1 (V x0 35) ∧ ((V (V x0 35) x1) = 0 → Q (V (V x0 36) x1) S V) ∧ (¬ (V (V x0 35) x1) = 0 → ((V (V x0 35) x1) = 1 → CT l G bX12_value d mc ms [vr x0, vi (V (V x0 36) x1), vi x2, vi x3] S V (fun z4 S4 V4 mc4 ms4 => Q (wr (-z4)) S4 V4)) ∧ (¬ (V (V x0 35) x1) = 1 → ((V (V x0 35) x1) = 2 → CT l G bX12_both d mc ms [vr x0, vi x1, vi x2, vi x3] S V (fun z7 S7 V7 mc7 ms7 => Q z7 S7 V7)) ∧ (¬ (V (V x0 35) x1) = 2 → ((V (V x0 35) x1) = 3 → CT l G bX12_both d mc ms [vr x0, vi x1, vi x2, vi x3] S V (fun z10 S10 V10 mc10 ms10 => Q z10 S10 V10)) ∧ (¬ (V (V x0 35) x1) = 3 → ((V (V x0 35) x1) = 4 → CT l G bX12_both d mc ms [vr x0, vi x1, vi x2, vi x3] S V (fun z13 S13 V13 mc13 ms13 => Q z13 S13 V13)) ∧ (¬ (V (V x0 35) x1) = 4 → ((V (V x0 35) x1) = 5 → CT l G bX12_both d mc ms [vr x0, vi x1, vi x2, vi x3] S V (fun z16 S16 V16 mc16 ms16 => Q z16 S16 V16)) ∧ (¬ (V (V x0 35) x1) = 5 → ((V (V x0 35) x1) = 6 → S.1 (V x0 54) = 20 ∧ 0 ≤ x2 ∧ x2 < S.2.1 (V x0 54) ∧ Q (V (V x0 54) x2) S V) ∧ (¬ (V (V x0 35) x1) = 6 → ((V (V x0 35) x1) = 7 → Q (x2.tmod 24) S V) ∧ (¬ (V (V x0 35) x1) = 7 → ((V (V x0 35) x1) = 8 → -2147483648 ≤ 4 * (x2.tdiv 24) ∧ 4 * (x2.tdiv 24) ≤ 2147483647 ∧ -2147483648 ≤ (4 * (x2.tdiv 24)) + x3 ∧ (4 * (x2.tdiv 24)) + x3 ≤ 2147483647 ∧ S.1 (V x0 19) = 20 ∧ 0 ≤ ((4 * (x2.tdiv 24)) + x3) ∧ ((4 * (x2.tdiv 24)) + x3) < S.2.1 (V x0 19) ∧ ((V (V x0 19) ((4 * (x2.tdiv 24)) + x3)) ≠ (-1) → CT l G bX12_value d mc ms [vr x0, vi (V (V x0 19) ((4 * (x2.tdiv 24)) + x3)), vi x2, vi x3] S V (fun z22 S22 V22 mc22 ms22 => Q z22 S22 V22)) ∧ (¬ ((V (V x0 19) ((4 * (x2.tdiv 24)) + x3)) ≠ (-1)) → CT l G bX12_failing d mc ms [vr x0, vi 5, vi (-1)] S V (fun z24 S24 V24 mc24 ms24 => Q z24 S24 V24))) ∧ (¬ (V (V x0 35) x1) = 8 → ((V (V x0 35) x1) = 9 → S.1 (V x0 39) = 20 ∧ x1 < S.2.1 (V x0 39) ∧ S.1 (V x0 14) = 20 ∧ 0 ≤ (V (V x0 39) x1) ∧ (V (V x0 39) x1) < S.2.1 (V x0 14) ∧ Q (V (V x0 14) (V (V x0 39) x1)) S V) ∧ (¬ (V (V x0 35) x1) = 9 → ((V (V x0 35) x1) = 10 → CT l G bX12_use d mc ms [vr x0, vi (((V (V x0 36) x1).tdiv 24).tmod 12)] S V (fun z28 S28 V28 mc28 ms28 => S28.1 x0 = 13 ∧ ((V28 x0 65) = 0 → S28.1 (V28 x0 53) = 20 ∧ 0 ≤ ((V (V x0 36) x1).tdiv 24) ∧ ((V (V x0 36) x1).tdiv 24) < S28.2.1 (V28 x0 53) ∧ ((V28 (V28 x0 53) ((V (V x0 36) x1).tdiv 24)) ≤ ((V (V x0 36) x1).tmod 24) → CT l G bX12_sees d mc28 ms28 [vr x0, vi (((V (V x0 36) x1).tdiv 24).tmod 12), vi (-1)] S28 V28 (fun z32 S32 V32 mc32 ms32 => Q z32 S32 V32)) ∧ (¬ ((V28 (V28 x0 53) ((V (V x0 36) x1).tdiv 24)) ≤ ((V (V x0 36) x1).tmod 24)) → Q ((V (V x0 36) x1).tmod 24) S28 V28)) ∧ (¬ ((V28 x0 65) = 0) → Q 0 S28 V28))) ∧ (¬ (V (V x0 35) x1) = 10 → ((V (V x0 35) x1) = 11 → -2147483648 ≤ 100 + ((V (V x0 36) x1).tmod 48) ∧ 100 + ((V (V x0 36) x1).tmod 48) ≤ 2147483647 ∧ CT l G bX12_use d mc ms [vr x0, vi (100 + ((V (V x0 36) x1).tmod 48))] S V (fun z35 S35 V35 mc35 ms35 => S35.1 x0 = 13 ∧ ((V35 x0 65) = 0 → -2147483648 ≤ 160 * (V35 x0 9) ∧ 160 * (V35 x0 9) ≤ 2147483647 ∧ -2147483648 ≤ (160 * (V35 x0 9)) + (100 + ((V (V x0 36) x1).tmod 48)) ∧ (160 * (V35 x0 9)) + (100 + ((V (V x0 36) x1).tmod 48)) ≤ 2147483647 ∧ S35.1 (V35 x0 52) = 20 ∧ 0 ≤ ((160 * (V35 x0 9)) + (100 + ((V (V x0 36) x1).tmod 48))) ∧ ((160 * (V35 x0 9)) + (100 + ((V (V x0 36) x1).tmod 48))) < S35.2.1 (V35 x0 52) ∧ ((V35 (V35 x0 52) ((160 * (V35 x0 9)) + (100 + ((V (V x0 36) x1).tmod 48)))) ≠ 3 → S35.1 (V35 x0 57) = 20 ∧ 0 ≤ (V (V x0 36) x1) ∧ (V (V x0 36) x1) < S35.2.1 (V35 x0 57) ∧ Q (V35 (V35 x0 57) (V (V x0 36) x1)) S35 V35) ∧ (¬ ((V35 (V35 x0 52) ((160 * (V35 x0 9)) + (100 + ((V (V x0 36) x1).tmod 48)))) ≠ 3) → CT l G bX12_sees d mc35 ms35 [vr x0, vi (100 + ((V (V x0 36) x1).tmod 48)), vi 0] S35 V35 (fun z39 S39 V39 mc39 ms39 => Q z39 S39 V39))) ∧ (¬ ((V35 x0 65) = 0) → Q 0 S35 V35))) ∧ (¬ (V (V x0 35) x1) = 11 → ((V (V x0 35) x1) = 12 → CT l G bX12_entryOf d mc ms [vr x0, vi x1, vi x2, vi x3] S V (fun z42 S42 V42 mc42 ms42 => Q z42 S42 V42)) ∧ (¬ (V (V x0 35) x1) = 12 → CT l G bX12_both d mc ms [vr x0, vi x1, vi x2, vi x3] S V (fun z44 S44 V44 mc44 ms44 => Q z44 S44 V44))))))))))))))) ∧ (¬ ((V x0 65) = 0) → Q 0 S V)) : XJ l G bX12_value Q d 0 [vr x0, vi x1, vi x2, vi x3, vu, vu, vu, vu] [] S V mc ms := by
  refine X_aload_n dX12_value_0 rfl ?_
  refine X_getfield (ci := 12) (k := 65) (v := vi (V x0 65)) dX12_value_1 rfl (by decide) kf_RX12_401 rfl h.1 ?_
  refine X_if_eq dX12_value_4 (tgt := 9) rfl (fun c1 => ?_) (fun c1 => ?_)
  · refine X_aload_n dX12_value_9 rfl ?_
    refine X_getfield (ci := 12) (k := 36) (v := vr (V x0 36)) dX12_value_10 rfl (by decide) kf_RX12_95 rfl h.1 ?_
    refine X_iload_n dX12_value_13 rfl ?_
    refine X_iaload dX12_value_14 (h.2.1 c1).1 (h.2.1 c1).2.1 (h.2.1 c1).2.2.1 ?_
    refine X_istore dX12_value_15 (by decide) rfl ?_
    refine X_aload_n dX12_value_17 rfl ?_
    refine X_getfield (ci := 12) (k := 35) (v := vr (V x0 35)) dX12_value_18 rfl (by decide) kf_RX12_92 rfl h.1 ?_
    refine X_iload_n dX12_value_21 rfl ?_
    refine X_iaload dX12_value_22 (h.2.1 c1).2.2.2.1 (h.2.1 c1).2.1 (h.2.1 c1).2.2.2.2.1 ?_
    by_cases c2 : (V (V x0 35) x1) = 0
    · refine X_table dX12_value_23 88 65 (by rw [c2]; rfl) rfl ?_
      refine X_iload dX12_value_88 rfl ?_
      exact X_ret (z := (V (V x0 36) x1)) dX12_value_90 rfl (fun hv => vok_h hv) ((h.2.1 c1).2.2.2.2.2.1 c2)
    by_cases c3 : (V (V x0 35) x1) = 1
    · refine X_table dX12_value_23 91 68 (by rw [c3]; rfl) rfl ?_
      refine X_aload_n dX12_value_91 rfl ?_
      refine X_iload dX12_value_92 rfl ?_
      refine X_iload_n dX12_value_94 rfl ?_
      refine X_iload_n dX12_value_95 rfl ?_
      refine X_invV (ci := 12) (as := [vi (V (V x0 36) x1), vi x2, vi x3]) (st := []) okX12_value dX12_value_96 km_RX12_422 rfl rfl (Nat.le_of_ble_eq_true rfl) rfl rfl h.1 (CT.imp (((h.2.1 c1).2.2.2.2.2.2 c2).1 c3) (fun z4 S4 V4 mc4 ms4 hc5 => ?_))
      refine X_ineg dX12_value_99 ?_
      exact X_ret (z := (wr (-z4))) dX12_value_100 rfl (fun hv => vok_h hv) hc5
    by_cases c6 : (V (V x0 35) x1) = 2
    · refine X_table dX12_value_23 294 271 (by rw [c6]; rfl) rfl ?_
      refine X_aload_n dX12_value_294 rfl ?_
      refine X_iload_n dX12_value_295 rfl ?_
      refine X_iload_n dX12_value_296 rfl ?_
      refine X_iload_n dX12_value_297 rfl ?_
      refine X_invV (ci := 12) (as := [vi x1, vi x2, vi x3]) (st := []) okX12_both dX12_value_298 km_RX12_433 rfl rfl (Nat.le_of_ble_eq_true rfl) rfl rfl h.1 (CT.imp ((((h.2.1 c1).2.2.2.2.2.2 c2).2 c3).1 c6) (fun z7 S7 V7 mc7 ms7 hc8 => ?_))
      exact X_ret (z := z7) dX12_value_301 rfl (fun hv => vok_h hv) hc8
    by_cases c9 : (V (V x0 35) x1) = 3
    · refine X_table dX12_value_23 294 271 (by rw [c9]; rfl) rfl ?_
      refine X_aload_n dX12_value_294 rfl ?_
      refine X_iload_n dX12_value_295 rfl ?_
      refine X_iload_n dX12_value_296 rfl ?_
      refine X_iload_n dX12_value_297 rfl ?_
      refine X_invV (ci := 12) (as := [vi x1, vi x2, vi x3]) (st := []) okX12_both dX12_value_298 km_RX12_433 rfl rfl (Nat.le_of_ble_eq_true rfl) rfl rfl h.1 (CT.imp (((((h.2.1 c1).2.2.2.2.2.2 c2).2 c3).2 c6).1 c9) (fun z10 S10 V10 mc10 ms10 hc11 => ?_))
      exact X_ret (z := z10) dX12_value_301 rfl (fun hv => vok_h hv) hc11
    by_cases c12 : (V (V x0 35) x1) = 4
    · refine X_table dX12_value_23 294 271 (by rw [c12]; rfl) rfl ?_
      refine X_aload_n dX12_value_294 rfl ?_
      refine X_iload_n dX12_value_295 rfl ?_
      refine X_iload_n dX12_value_296 rfl ?_
      refine X_iload_n dX12_value_297 rfl ?_
      refine X_invV (ci := 12) (as := [vi x1, vi x2, vi x3]) (st := []) okX12_both dX12_value_298 km_RX12_433 rfl rfl (Nat.le_of_ble_eq_true rfl) rfl rfl h.1 (CT.imp ((((((h.2.1 c1).2.2.2.2.2.2 c2).2 c3).2 c6).2 c9).1 c12) (fun z13 S13 V13 mc13 ms13 hc14 => ?_))
      exact X_ret (z := z13) dX12_value_301 rfl (fun hv => vok_h hv) hc14
    by_cases c15 : (V (V x0 35) x1) = 5
    · refine X_table dX12_value_23 294 271 (by rw [c15]; rfl) rfl ?_
      refine X_aload_n dX12_value_294 rfl ?_
      refine X_iload_n dX12_value_295 rfl ?_
      refine X_iload_n dX12_value_296 rfl ?_
      refine X_iload_n dX12_value_297 rfl ?_
      refine X_invV (ci := 12) (as := [vi x1, vi x2, vi x3]) (st := []) okX12_both dX12_value_298 km_RX12_433 rfl rfl (Nat.le_of_ble_eq_true rfl) rfl rfl h.1 (CT.imp (((((((h.2.1 c1).2.2.2.2.2.2 c2).2 c3).2 c6).2 c9).2 c12).1 c15) (fun z16 S16 V16 mc16 ms16 hc17 => ?_))
      exact X_ret (z := z16) dX12_value_301 rfl (fun hv => vok_h hv) hc17
    by_cases c18 : (V (V x0 35) x1) = 6
    · refine X_table dX12_value_23 101 78 (by rw [c18]; rfl) rfl ?_
      refine X_aload_n dX12_value_101 rfl ?_
      refine X_getfield (ci := 12) (k := 54) (v := vr (V x0 54)) dX12_value_102 rfl (by decide) kf_RX12_122 rfl h.1 ?_
      refine X_iload_n dX12_value_105 rfl ?_
      refine X_iaload dX12_value_106 ((((((((h.2.1 c1).2.2.2.2.2.2 c2).2 c3).2 c6).2 c9).2 c12).2 c15).1 c18).1 ((((((((h.2.1 c1).2.2.2.2.2.2 c2).2 c3).2 c6).2 c9).2 c12).2 c15).1 c18).2.1 ((((((((h.2.1 c1).2.2.2.2.2.2 c2).2 c3).2 c6).2 c9).2 c12).2 c15).1 c18).2.2.1 ?_
      exact X_ret (z := (V (V x0 54) x2)) dX12_value_107 rfl (fun hv => vok_h hv) ((((((((h.2.1 c1).2.2.2.2.2.2 c2).2 c3).2 c6).2 c9).2 c12).2 c15).1 c18).2.2.2
    by_cases c19 : (V (V x0 35) x1) = 7
    · refine X_table dX12_value_23 108 85 (by rw [c19]; rfl) rfl ?_
      refine X_iload_n dX12_value_108 rfl ?_
      refine X_bipush dX12_value_109 (by decide) (by decide) ?_
      refine X_iremP dX12_value_111 (by decide) ?_
      exact X_ret (z := (x2.tmod 24)) dX12_value_112 rfl (fun hv => vok_h hv) (((((((((h.2.1 c1).2.2.2.2.2.2 c2).2 c3).2 c6).2 c9).2 c12).2 c15).2 c18).1 c19)
    by_cases c20 : (V (V x0 35) x1) = 8
    · refine X_table dX12_value_23 125 102 (by rw [c20]; rfl) rfl ?_
      refine X_aload_n dX12_value_125 rfl ?_
      refine X_getfield (ci := 12) (k := 19) (v := vr (V x0 19)) dX12_value_126 rfl (by decide) kf_RX12_44 rfl h.1 ?_
      refine X_iconst dX12_value_129 (by decide) ?_
      refine X_iload_n dX12_value_130 rfl ?_
      refine X_bipush dX12_value_131 (by decide) (by decide) ?_
      refine X_idivP dX12_value_133 (by decide) ?_
      refine X_imulN dX12_value_134 ((((((((((h.2.1 c1).2.2.2.2.2.2 c2).2 c3).2 c6).2 c9).2 c12).2 c15).2 c18).2 c19).1 c20).1 ((((((((((h.2.1 c1).2.2.2.2.2.2 c2).2 c3).2 c6).2 c9).2 c12).2 c15).2 c18).2 c19).1 c20).2.1 ?_
      refine X_iload_n dX12_value_135 rfl ?_
      refine X_iaddN dX12_value_136 ((((((((((h.2.1 c1).2.2.2.2.2.2 c2).2 c3).2 c6).2 c9).2 c12).2 c15).2 c18).2 c19).1 c20).2.2.1 ((((((((((h.2.1 c1).2.2.2.2.2.2 c2).2 c3).2 c6).2 c9).2 c12).2 c15).2 c18).2 c19).1 c20).2.2.2.1 ?_
      refine X_iaload dX12_value_137 ((((((((((h.2.1 c1).2.2.2.2.2.2 c2).2 c3).2 c6).2 c9).2 c12).2 c15).2 c18).2 c19).1 c20).2.2.2.2.1 ((((((((((h.2.1 c1).2.2.2.2.2.2 c2).2 c3).2 c6).2 c9).2 c12).2 c15).2 c18).2 c19).1 c20).2.2.2.2.2.1 ((((((((((h.2.1 c1).2.2.2.2.2.2 c2).2 c3).2 c6).2 c9).2 c12).2 c15).2 c18).2 c19).1 c20).2.2.2.2.2.2.1 ?_
      refine X_istore dX12_value_138 (by decide) rfl ?_
      refine X_iload dX12_value_140 rfl ?_
      refine X_iconst dX12_value_142 (by decide) ?_
      refine X_icmp_ne dX12_value_143 (tgt := 155) rfl (fun c21 => ?_) (fun c21 => ?_)
      · refine X_aload_n dX12_value_155 rfl ?_
        refine X_iload dX12_value_156 rfl ?_
        refine X_iload_n dX12_value_158 rfl ?_
        refine X_iload_n dX12_value_159 rfl ?_
        refine X_invV (ci := 12) (as := [vi (V (V x0 19) ((4 * (x2.tdiv 24)) + x3)), vi x2, vi x3]) (st := []) okX12_value dX12_value_160 km_RX12_422 rfl rfl (Nat.le_of_ble_eq_true rfl) rfl rfl h.1 (CT.imp (((((((((((h.2.1 c1).2.2.2.2.2.2 c2).2 c3).2 c6).2 c9).2 c12).2 c15).2 c18).2 c19).1 c20).2.2.2.2.2.2.2.1 c21) (fun z22 S22 V22 mc22 ms22 hc23 => ?_))
        exact X_ret (z := z22) dX12_value_163 rfl (fun hv => vok_h hv) hc23
      · refine X_aload_n dX12_value_146 rfl ?_
        refine X_iconst dX12_value_147 (by decide) ?_
        refine X_iconst dX12_value_148 (by decide) ?_
        refine X_invV (ci := 12) (as := [vi 5, vi (-1)]) (st := []) okX12_failing dX12_value_149 km_RX12_407 rfl rfl (Nat.le_of_ble_eq_true rfl) rfl rfl h.1 (CT.imp (((((((((((h.2.1 c1).2.2.2.2.2.2 c2).2 c3).2 c6).2 c9).2 c12).2 c15).2 c18).2 c19).1 c20).2.2.2.2.2.2.2.2 c21) (fun z24 S24 V24 mc24 ms24 hc25 => ?_))
        refine X_goto dX12_value_152 (tgt := 163) rfl ?_
        exact X_ret (z := z24) dX12_value_163 rfl (fun hv => vok_h hv) hc25
    by_cases c26 : (V (V x0 35) x1) = 9
    · refine X_table dX12_value_23 113 90 (by rw [c26]; rfl) rfl ?_
      refine X_aload_n dX12_value_113 rfl ?_
      refine X_getfield (ci := 12) (k := 14) (v := vr (V x0 14)) dX12_value_114 rfl (by decide) kf_RX12_29 rfl h.1 ?_
      refine X_aload_n dX12_value_117 rfl ?_
      refine X_getfield (ci := 12) (k := 39) (v := vr (V x0 39)) dX12_value_118 rfl (by decide) kf_RX12_104 rfl h.1 ?_
      refine X_iload_n dX12_value_121 rfl ?_
      refine X_iaload dX12_value_122 (((((((((((h.2.1 c1).2.2.2.2.2.2 c2).2 c3).2 c6).2 c9).2 c12).2 c15).2 c18).2 c19).2 c20).1 c26).1 (h.2.1 c1).2.1 (((((((((((h.2.1 c1).2.2.2.2.2.2 c2).2 c3).2 c6).2 c9).2 c12).2 c15).2 c18).2 c19).2 c20).1 c26).2.1 ?_
      refine X_iaload dX12_value_123 (((((((((((h.2.1 c1).2.2.2.2.2.2 c2).2 c3).2 c6).2 c9).2 c12).2 c15).2 c18).2 c19).2 c20).1 c26).2.2.1 (((((((((((h.2.1 c1).2.2.2.2.2.2 c2).2 c3).2 c6).2 c9).2 c12).2 c15).2 c18).2 c19).2 c20).1 c26).2.2.2.1 (((((((((((h.2.1 c1).2.2.2.2.2.2 c2).2 c3).2 c6).2 c9).2 c12).2 c15).2 c18).2 c19).2 c20).1 c26).2.2.2.2.1 ?_
      exact X_ret (z := (V (V x0 14) (V (V x0 39) x1))) dX12_value_124 rfl (fun hv => vok_h hv) (((((((((((h.2.1 c1).2.2.2.2.2.2 c2).2 c3).2 c6).2 c9).2 c12).2 c15).2 c18).2 c19).2 c20).1 c26).2.2.2.2.2
    by_cases c27 : (V (V x0 35) x1) = 10
    · refine X_table dX12_value_23 164 141 (by rw [c27]; rfl) rfl ?_
      refine X_iload dX12_value_164 rfl ?_
      refine X_bipush dX12_value_166 (by decide) (by decide) ?_
      refine X_idivP dX12_value_168 (by decide) ?_
      refine X_istore dX12_value_169 (by decide) rfl ?_
      refine X_aload_n dX12_value_171 rfl ?_
      refine X_iload dX12_value_172 rfl ?_
      refine X_bipush dX12_value_174 (by decide) (by decide) ?_
      refine X_iremP dX12_value_176 (by decide) ?_
      refine X_invV (ci := 12) (as := [vi (((V (V x0 36) x1).tdiv 24).tmod 12)]) (st := []) okX12_use dX12_value_177 km_RX12_424 rfl rfl (Nat.le_of_ble_eq_true rfl) rfl rfl h.1 (CT.imp ((((((((((((h.2.1 c1).2.2.2.2.2.2 c2).2 c3).2 c6).2 c9).2 c12).2 c15).2 c18).2 c19).2 c20).2 c26).1 c27) (fun z28 S28 V28 mc28 ms28 hc29 => ?_))
      refine X_aload_n dX12_value_180 rfl ?_
      refine X_getfield (ci := 12) (k := 65) (v := vi (V28 x0 65)) dX12_value_181 rfl (by decide) kf_RX12_401 rfl hc29.1 ?_
      refine X_if_eq dX12_value_184 (tgt := 189) rfl (fun c30 => ?_) (fun c30 => ?_)
      · refine X_iload dX12_value_189 rfl ?_
        refine X_bipush dX12_value_191 (by decide) (by decide) ?_
        refine X_iremP dX12_value_193 (by decide) ?_
        refine X_aload_n dX12_value_194 rfl ?_
        refine X_getfield (ci := 12) (k := 53) (v := vr (V28 x0 53)) dX12_value_195 rfl (by decide) kf_RX12_119 rfl hc29.1 ?_
        refine X_iload dX12_value_198 rfl ?_
        refine X_iaload dX12_value_200 (hc29.2.1 c30).1 (hc29.2.1 c30).2.1 (hc29.2.1 c30).2.2.1 ?_
        refine X_icmp_ge dX12_value_201 (tgt := 212) rfl (fun c31 => ?_) (fun c31 => ?_)
        · refine X_aload_n dX12_value_212 rfl ?_
          refine X_iload dX12_value_213 rfl ?_
          refine X_bipush dX12_value_215 (by decide) (by decide) ?_
          refine X_iremP dX12_value_217 (by decide) ?_
          refine X_iconst dX12_value_218 (by decide) ?_
          refine X_invV (ci := 12) (as := [vi (((V (V x0 36) x1).tdiv 24).tmod 12), vi (-1)]) (st := []) okX12_sees dX12_value_219 km_RX12_427 rfl rfl (Nat.le_of_ble_eq_true rfl) rfl rfl hc29.1 (CT.imp ((hc29.2.1 c30).2.2.2.1 c31) (fun z32 S32 V32 mc32 ms32 hc33 => ?_))
          exact X_ret (z := z32) dX12_value_222 rfl (fun hv => vok_h hv) hc33
        · refine X_iload dX12_value_204 rfl ?_
          refine X_bipush dX12_value_206 (by decide) (by decide) ?_
          refine X_iremP dX12_value_208 (by decide) ?_
          refine X_goto dX12_value_209 (tgt := 222) rfl ?_
          exact X_ret (z := ((V (V x0 36) x1).tmod 24)) dX12_value_222 rfl (fun hv => vok_h hv) ((hc29.2.1 c30).2.2.2.2 c31)
      · refine X_iconst dX12_value_187 (by decide) ?_
        exact X_ret (z := 0) dX12_value_188 rfl (fun hv => vok_h hv) (hc29.2.2 c30)
    by_cases c34 : (V (V x0 35) x1) = 11
    · refine X_table dX12_value_23 223 200 (by rw [c34]; rfl) rfl ?_
      refine X_bipush dX12_value_223 (by decide) (by decide) ?_
      refine X_iload dX12_value_225 rfl ?_
      refine X_bipush dX12_value_227 (by decide) (by decide) ?_
      refine X_iremP dX12_value_229 (by decide) ?_
      refine X_iaddN dX12_value_230 (((((((((((((h.2.1 c1).2.2.2.2.2.2 c2).2 c3).2 c6).2 c9).2 c12).2 c15).2 c18).2 c19).2 c20).2 c26).2 c27).1 c34).1 (((((((((((((h.2.1 c1).2.2.2.2.2.2 c2).2 c3).2 c6).2 c9).2 c12).2 c15).2 c18).2 c19).2 c20).2 c26).2 c27).1 c34).2.1 ?_
      refine X_istore dX12_value_231 (by decide) rfl ?_
      refine X_aload_n dX12_value_233 rfl ?_
      refine X_iload dX12_value_234 rfl ?_
      refine X_invV (ci := 12) (as := [vi (100 + ((V (V x0 36) x1).tmod 48))]) (st := []) okX12_use dX12_value_236 km_RX12_424 rfl rfl (Nat.le_of_ble_eq_true rfl) rfl rfl h.1 (CT.imp (((((((((((((h.2.1 c1).2.2.2.2.2.2 c2).2 c3).2 c6).2 c9).2 c12).2 c15).2 c18).2 c19).2 c20).2 c26).2 c27).1 c34).2.2 (fun z35 S35 V35 mc35 ms35 hc36 => ?_))
      refine X_aload_n dX12_value_239 rfl ?_
      refine X_getfield (ci := 12) (k := 65) (v := vi (V35 x0 65)) dX12_value_240 rfl (by decide) kf_RX12_401 rfl hc36.1 ?_
      refine X_if_eq dX12_value_243 (tgt := 248) rfl (fun c37 => ?_) (fun c37 => ?_)
      · refine X_aload_n dX12_value_248 rfl ?_
        refine X_getfield (ci := 12) (k := 52) (v := vr (V35 x0 52)) dX12_value_249 rfl (by decide) kf_RX12_116 rfl hc36.1 ?_
        refine X_sipush dX12_value_252 (by decide) (by decide) ?_
        refine X_aload_n dX12_value_255 rfl ?_
        refine X_getfield (ci := 12) (k := 9) (v := vi (V35 x0 9)) dX12_value_256 rfl (by decide) kf_RX12_263 rfl hc36.1 ?_
        refine X_imulN dX12_value_259 (hc36.2.1 c37).1 (hc36.2.1 c37).2.1 ?_
        refine X_iload dX12_value_260 rfl ?_
        refine X_iaddN dX12_value_262 (hc36.2.1 c37).2.2.1 (hc36.2.1 c37).2.2.2.1 ?_
        refine X_iaload dX12_value_263 (hc36.2.1 c37).2.2.2.2.1 (hc36.2.1 c37).2.2.2.2.2.1 (hc36.2.1 c37).2.2.2.2.2.2.1 ?_
        refine X_iconst dX12_value_264 (by decide) ?_
        refine X_icmp_ne dX12_value_265 (tgt := 278) rfl (fun c38 => ?_) (fun c38 => ?_)
        · refine X_aload_n dX12_value_278 rfl ?_
          refine X_getfield (ci := 12) (k := 57) (v := vr (V35 x0 57)) dX12_value_279 rfl (by decide) kf_RX12_131 rfl hc36.1 ?_
          refine X_iload dX12_value_282 rfl ?_
          refine X_iaload dX12_value_284 ((hc36.2.1 c37).2.2.2.2.2.2.2.1 c38).1 ((hc36.2.1 c37).2.2.2.2.2.2.2.1 c38).2.1 ((hc36.2.1 c37).2.2.2.2.2.2.2.1 c38).2.2.1 ?_
          exact X_ret (z := (V35 (V35 x0 57) (V (V x0 36) x1))) dX12_value_285 rfl (fun hv => vok_h hv) ((hc36.2.1 c37).2.2.2.2.2.2.2.1 c38).2.2.2
        · refine X_aload_n dX12_value_268 rfl ?_
          refine X_iload dX12_value_269 rfl ?_
          refine X_iconst dX12_value_271 (by decide) ?_
          refine X_invV (ci := 12) (as := [vi (100 + ((V (V x0 36) x1).tmod 48)), vi 0]) (st := []) okX12_sees dX12_value_272 km_RX12_427 rfl rfl (Nat.le_of_ble_eq_true rfl) rfl rfl hc36.1 (CT.imp ((hc36.2.1 c37).2.2.2.2.2.2.2.2 c38) (fun z39 S39 V39 mc39 ms39 hc40 => ?_))
          refine X_goto dX12_value_275 (tgt := 285) rfl ?_
          exact X_ret (z := z39) dX12_value_285 rfl (fun hv => vok_h hv) hc40
      · refine X_iconst dX12_value_246 (by decide) ?_
        exact X_ret (z := 0) dX12_value_247 rfl (fun hv => vok_h hv) (hc36.2.2 c37)
    by_cases c41 : (V (V x0 35) x1) = 12
    · refine X_table dX12_value_23 286 263 (by rw [c41]; rfl) rfl ?_
      refine X_aload_n dX12_value_286 rfl ?_
      refine X_iload_n dX12_value_287 rfl ?_
      refine X_iload_n dX12_value_288 rfl ?_
      refine X_iload_n dX12_value_289 rfl ?_
      refine X_invV (ci := 12) (as := [vi x1, vi x2, vi x3]) (st := []) okX12_entryOf dX12_value_290 km_RX12_430 rfl rfl (Nat.le_of_ble_eq_true rfl) rfl rfl h.1 (CT.imp ((((((((((((((h.2.1 c1).2.2.2.2.2.2 c2).2 c3).2 c6).2 c9).2 c12).2 c15).2 c18).2 c19).2 c20).2 c26).2 c27).2 c34).1 c41) (fun z42 S42 V42 mc42 ms42 hc43 => ?_))
      exact X_ret (z := z42) dX12_value_293 rfl (fun hv => vok_h hv) hc43
    refine X_table dX12_value_23 294 271 (tbl_df (by omega)) rfl ?_
    refine X_aload_n dX12_value_294 rfl ?_
    refine X_iload_n dX12_value_295 rfl ?_
    refine X_iload_n dX12_value_296 rfl ?_
    refine X_iload_n dX12_value_297 rfl ?_
    refine X_invV (ci := 12) (as := [vi x1, vi x2, vi x3]) (st := []) okX12_both dX12_value_298 km_RX12_433 rfl rfl (Nat.le_of_ble_eq_true rfl) rfl rfl h.1 (CT.imp ((((((((((((((h.2.1 c1).2.2.2.2.2.2 c2).2 c3).2 c6).2 c9).2 c12).2 c15).2 c18).2 c19).2 c20).2 c26).2 c27).2 c34).2 c41) (fun z44 S44 V44 mc44 ms44 hc45 => ?_))
    exact X_ret (z := z44) dX12_value_301 rfl (fun hv => vok_h hv) hc45
  · refine X_iconst dX12_value_7 (by decide) ?_
    exact X_ret (z := 0) dX12_value_8 rfl (fun hv => vok_h hv) (h.2.2 c1)
theorem qX12_value {l : Launch} {G : GT} {Q : Int → Sh → Mem → Prop} {d : Nat} {S : Sh} {V : Mem} {mc ms : Nat} {x0 x1 x2 x3 : Int} (h : 0 ≤ x0 → inI x1 → inI x2 → inI x3 → XJ l G bX12_value Q d 0 [vr x0, vi x1, vi x2, vi x3, vu, vu, vu, vu] [] S V mc ms) : Ct l G bX12_value Q d mc ms [vr x0, vi x1, vi x2, vi x3] S V := Ct.of okX12_value.1 trivial (Nat.le_of_ble_eq_true rfl) (fun hv => h (hv _ (List.mem_of_getElem? (i := 0) rfl)) (hv _ (List.mem_of_getElem? (i := 1) rfl)) (hv _ (List.mem_of_getElem? (i := 2) rfl)) (hv _ (List.mem_of_getElem? (i := 3) rfl)))
set_option maxRecDepth 10000 in
theorem vX12_entryOf_0 {l : Launch} {G : GT} {Q : Int → Sh → Mem → Prop} {d : Nat} {S : Sh} {V : Mem} {mc ms : Nat} {x0 x1 x2 x3 : Int} (h : S.1 x0 = 13 ∧ S.1 (V x0 36) = 20 ∧ 0 ≤ x1 ∧ x1 < S.2.1 (V x0 36) ∧ CT l G bX12_use d mc ms [vr x0, vi (((V (V x0 36) x1).tdiv 4).tmod 12)] S V (fun z1 S1 V1 mc1 ms1 => S1.1 x0 = 13 ∧ S1.1 (V1 x0 37) = 20 ∧ 0 ≤ x1 ∧ x1 < S1.2.1 (V1 x0 37) ∧ CT l G bX12_value d mc1 ms1 [vr x0, vi (V1 (V1 x0 37) x1), vi x2, vi x3] S1 V1 (fun z3 S3 V3 mc3 ms3 => S3.1 x0 = 13 ∧ ((V3 x0 65) = 0 → (z3 < 0 → CT l G bX12_failing d mc3 ms3 [vr x0, vi 4, vi (-1)] S3 V3 (fun z7 S7 V7 mc7 ms7 => Q z7 S7 V7)) ∧ (¬ (z3 < 0) → S3.1 (V3 x0 24) = 20 ∧ 0 ≤ (V (V x0 36) x1) ∧ (V (V x0 36) x1) < S3.2.1 (V3 x0 24) ∧ (z3 < (V3 (V3 x0 24) (V (V x0 36) x1)) → S3.1 (V3 x0 55) = 20 ∧ (V (V x0 36) x1) < S3.2.1 (V3 x0 55) ∧ ((V3 (V3 x0 55) (V (V x0 36) x1)) ≤ z3 → CT l G bX12_sees d mc3 ms3 [vr x0, vi (((V (V x0 36) x1).tdiv 4).tmod 12), vi 0] S3 V3 (fun z11 S11 V11 mc11 ms11 => Q z11 S11 V11)) ∧ (¬ ((V3 (V3 x0 55) (V (V x0 36) x1)) ≤ z3) → -2147483648 ≤ 12 * (V (V x0 36) x1) ∧ 12 * (V (V x0 36) x1) ≤ 2147483647 ∧ -2147483648 ≤ (12 * (V (V x0 36) x1)) + z3 ∧ (12 * (V (V x0 36) x1)) + z3 ≤ 2147483647 ∧ S3.1 (V3 x0 56) = 20 ∧ 0 ≤ ((12 * (V (V x0 36) x1)) + z3) ∧ ((12 * (V (V x0 36) x1)) + z3) < S3.2.1 (V3 x0 56) ∧ Q (V3 (V3 x0 56) ((12 * (V (V x0 36) x1)) + z3)) S3 V3)) ∧ (¬ (z3 < (V3 (V3 x0 24) (V (V x0 36) x1))) → CT l G bX12_failing d mc3 ms3 [vr x0, vi 4, vi (-1)] S3 V3 (fun z13 S13 V13 mc13 ms13 => Q z13 S13 V13)))) ∧ (¬ ((V3 x0 65) = 0) → Q 0 S3 V3)))) : XJ l G bX12_entryOf Q d 0 [vr x0, vi x1, vi x2, vi x3, vu, vu, vu] [] S V mc ms := by
  refine X_aload_n dX12_entryOf_0 rfl ?_
  refine X_getfield (ci := 12) (k := 36) (v := vr (V x0 36)) dX12_entryOf_1 rfl (by decide) kf_RX12_95 rfl h.1 ?_
  refine X_iload_n dX12_entryOf_4 rfl ?_
  refine X_iaload dX12_entryOf_5 h.2.1 h.2.2.1 h.2.2.2.1 ?_
  refine X_istore dX12_entryOf_6 (by decide) rfl ?_
  refine X_iload dX12_entryOf_8 rfl ?_
  refine X_iconst dX12_entryOf_10 (by decide) ?_
  refine X_idivP dX12_entryOf_11 (by decide) ?_
  refine X_istore dX12_entryOf_12 (by decide) rfl ?_
  refine X_aload_n dX12_entryOf_14 rfl ?_
  refine X_iload dX12_entryOf_15 rfl ?_
  refine X_bipush dX12_entryOf_17 (by decide) (by decide) ?_
  refine X_iremP dX12_entryOf_19 (by decide) ?_
  refine X_invV (ci := 12) (as := [vi (((V (V x0 36) x1).tdiv 4).tmod 12)]) (st := []) okX12_use dX12_entryOf_20 km_RX12_424 rfl rfl (Nat.le_of_ble_eq_true rfl) rfl rfl h.1 (CT.imp h.2.2.2.2 (fun z1 S1 V1 mc1 ms1 hc2 => ?_))
  refine X_aload_n dX12_entryOf_23 rfl ?_
  refine X_aload_n dX12_entryOf_24 rfl ?_
  refine X_getfield (ci := 12) (k := 37) (v := vr (V1 x0 37)) dX12_entryOf_25 rfl (by decide) kf_RX12_98 rfl hc2.1 ?_
  refine X_iload_n dX12_entryOf_28 rfl ?_
  refine X_iaload dX12_entryOf_29 hc2.2.1 hc2.2.2.1 hc2.2.2.2.1 ?_
  refine X_iload_n dX12_entryOf_30 rfl ?_
  refine X_iload_n dX12_entryOf_31 rfl ?_
  refine X_invV (ci := 12) (as := [vi (V1 (V1 x0 37) x1), vi x2, vi x3]) (st := []) okX12_value dX12_entryOf_32 km_RX12_422 rfl rfl (Nat.le_of_ble_eq_true rfl) rfl rfl hc2.1 (CT.imp hc2.2.2.2.2 (fun z3 S3 V3 mc3 ms3 hc4 => ?_))
  refine X_istore dX12_entryOf_35 (by decide) rfl ?_
  refine X_aload_n dX12_entryOf_37 rfl ?_
  refine X_getfield (ci := 12) (k := 65) (v := vi (V3 x0 65)) dX12_entryOf_38 rfl (by decide) kf_RX12_401 rfl hc4.1 ?_
  refine X_if_eq dX12_entryOf_41 (tgt := 46) rfl (fun c5 => ?_) (fun c5 => ?_)
  · refine X_iload dX12_entryOf_46 rfl ?_
    refine X_if_lt dX12_entryOf_48 (tgt := 63) rfl (fun c6 => ?_) (fun c6 => ?_)
    · refine X_aload_n dX12_entryOf_63 rfl ?_
      refine X_iconst dX12_entryOf_64 (by decide) ?_
      refine X_iconst dX12_entryOf_65 (by decide) ?_
      refine X_invV (ci := 12) (as := [vi 4, vi (-1)]) (st := []) okX12_failing dX12_entryOf_66 km_RX12_407 rfl rfl (Nat.le_of_ble_eq_true rfl) rfl rfl hc4.1 (CT.imp ((hc4.2.1 c5).1 c6) (fun z7 S7 V7 mc7 ms7 hc8 => ?_))
      exact X_ret (z := z7) dX12_entryOf_69 rfl (fun hv => vok_h hv) hc8
    · refine X_iload dX12_entryOf_51 rfl ?_
      refine X_aload_n dX12_entryOf_53 rfl ?_
      refine X_getfield (ci := 12) (k := 24) (v := vr (V3 x0 24)) dX12_entryOf_54 rfl (by decide) kf_RX12_59 rfl hc4.1 ?_
      refine X_iload dX12_entryOf_57 rfl ?_
      refine X_iaload dX12_entryOf_59 ((hc4.2.1 c5).2 c6).1 ((hc4.2.1 c5).2 c6).2.1 ((hc4.2.1 c5).2 c6).2.2.1 ?_
      refine X_icmp_lt dX12_entryOf_60 (tgt := 70) rfl (fun c9 => ?_) (fun c9 => ?_)
      · refine X_iload dX12_entryOf_70 rfl ?_
        refine X_aload_n dX12_entryOf_72 rfl ?_
        refine X_getfield (ci := 12) (k := 55) (v := vr (V3 x0 55)) dX12_entryOf_73 rfl (by decide) kf_RX12_125 rfl hc4.1 ?_
        refine X_iload dX12_entryOf_76 rfl ?_
        refine X_iaload dX12_entryOf_78 (((hc4.2.1 c5).2 c6).2.2.2.1 c9).1 ((hc4.2.1 c5).2 c6).2.1 (((hc4.2.1 c5).2 c6).2.2.2.1 c9).2.1 ?_
        refine X_icmp_ge dX12_entryOf_79 (tgt := 98) rfl (fun c10 => ?_) (fun c10 => ?_)
        · refine X_aload_n dX12_entryOf_98 rfl ?_
          refine X_iload dX12_entryOf_99 rfl ?_
          refine X_bipush dX12_entryOf_101 (by decide) (by decide) ?_
          refine X_iremP dX12_entryOf_103 (by decide) ?_
          refine X_iconst dX12_entryOf_104 (by decide) ?_
          refine X_invV (ci := 12) (as := [vi (((V (V x0 36) x1).tdiv 4).tmod 12), vi 0]) (st := []) okX12_sees dX12_entryOf_105 km_RX12_427 rfl rfl (Nat.le_of_ble_eq_true rfl) rfl rfl hc4.1 (CT.imp ((((hc4.2.1 c5).2 c6).2.2.2.1 c9).2.2.1 c10) (fun z11 S11 V11 mc11 ms11 hc12 => ?_))
          exact X_ret (z := z11) dX12_entryOf_108 rfl (fun hv => vok_h hv) hc12
        · refine X_aload_n dX12_entryOf_82 rfl ?_
          refine X_getfield (ci := 12) (k := 56) (v := vr (V3 x0 56)) dX12_entryOf_83 rfl (by decide) kf_RX12_128 rfl hc4.1 ?_
          refine X_bipush dX12_entryOf_86 (by decide) (by decide) ?_
          refine X_iload dX12_entryOf_88 rfl ?_
          refine X_imulN dX12_entryOf_90 ((((hc4.2.1 c5).2 c6).2.2.2.1 c9).2.2.2 c10).1 ((((hc4.2.1 c5).2 c6).2.2.2.1 c9).2.2.2 c10).2.1 ?_
          refine X_iload dX12_entryOf_91 rfl ?_
          refine X_iaddN dX12_entryOf_93 ((((hc4.2.1 c5).2 c6).2.2.2.1 c9).2.2.2 c10).2.2.1 ((((hc4.2.1 c5).2 c6).2.2.2.1 c9).2.2.2 c10).2.2.2.1 ?_
          refine X_iaload dX12_entryOf_94 ((((hc4.2.1 c5).2 c6).2.2.2.1 c9).2.2.2 c10).2.2.2.2.1 ((((hc4.2.1 c5).2 c6).2.2.2.1 c9).2.2.2 c10).2.2.2.2.2.1 ((((hc4.2.1 c5).2 c6).2.2.2.1 c9).2.2.2 c10).2.2.2.2.2.2.1 ?_
          refine X_goto dX12_entryOf_95 (tgt := 108) rfl ?_
          exact X_ret (z := (V3 (V3 x0 56) ((12 * (V (V x0 36) x1)) + z3))) dX12_entryOf_108 rfl (fun hv => vok_h hv) ((((hc4.2.1 c5).2 c6).2.2.2.1 c9).2.2.2 c10).2.2.2.2.2.2.2
      · refine X_aload_n dX12_entryOf_63 rfl ?_
        refine X_iconst dX12_entryOf_64 (by decide) ?_
        refine X_iconst dX12_entryOf_65 (by decide) ?_
        refine X_invV (ci := 12) (as := [vi 4, vi (-1)]) (st := []) okX12_failing dX12_entryOf_66 km_RX12_407 rfl rfl (Nat.le_of_ble_eq_true rfl) rfl rfl hc4.1 (CT.imp (((hc4.2.1 c5).2 c6).2.2.2.2 c9) (fun z13 S13 V13 mc13 ms13 hc14 => ?_))
        exact X_ret (z := z13) dX12_entryOf_69 rfl (fun hv => vok_h hv) hc14
  · refine X_iconst dX12_entryOf_44 (by decide) ?_
    exact X_ret (z := 0) dX12_entryOf_45 rfl (fun hv => vok_h hv) (hc4.2.2 c5)
theorem qX12_entryOf {l : Launch} {G : GT} {Q : Int → Sh → Mem → Prop} {d : Nat} {S : Sh} {V : Mem} {mc ms : Nat} {x0 x1 x2 x3 : Int} (h : 0 ≤ x0 → inI x1 → inI x2 → inI x3 → XJ l G bX12_entryOf Q d 0 [vr x0, vi x1, vi x2, vi x3, vu, vu, vu] [] S V mc ms) : Ct l G bX12_entryOf Q d mc ms [vr x0, vi x1, vi x2, vi x3] S V := Ct.of okX12_entryOf.1 trivial (Nat.le_of_ble_eq_true rfl) (fun hv => h (hv _ (List.mem_of_getElem? (i := 0) rfl)) (hv _ (List.mem_of_getElem? (i := 1) rfl)) (hv _ (List.mem_of_getElem? (i := 2) rfl)) (hv _ (List.mem_of_getElem? (i := 3) rfl)))
set_option maxRecDepth 10000 in
theorem vX12_both_0 {l : Launch} {G : GT} {Q : Int → Sh → Mem → Prop} {d : Nat} {S : Sh} {V : Mem} {mc ms : Nat} {x0 x1 x2 x3 : Int} (h : XJ l G bX12_both Q d 3 [vr x0, vi x1, vi x2, vi x3, vi x1, vu] [] S V mc ms) : XJ l G bX12_both Q d 0 [vr x0, vi x1, vi x2, vi x3, vu, vu] [] S V mc ms := by
  refine X_iload_n dX12_both_0 rfl ?_
  refine X_istore dX12_both_1 (by decide) rfl ?_
  exact h
set_option maxRecDepth 10000 in
theorem vX12_both_3 {l : Launch} {G : GT} {Q : Int → Sh → Mem → Prop} {d : Nat} {S : Sh} {V : Mem} {mc ms : Nat} {x0 x1 x2 x3 x4 : Int} (h : S.1 x0 = 13 ∧ S.1 (V x0 36) = 20 ∧ 0 ≤ x4 ∧ x4 < S.2.1 (V x0 36) ∧ S.1 (V x0 35) = 20 ∧ 0 ≤ (V (V x0 36) x4) ∧ (V (V x0 36) x4) < S.2.1 (V x0 35) ∧ CT l G bX12_isTwo d mc ms [vi (V (V x0 35) (V (V x0 36) x4))] S V (fun z1 S1 V1 mc1 ms1 => (z1 = 0 → S1.1 x0 = 13 ∧ S1.1 (V1 x0 36) = 20 ∧ 0 ≤ x4 ∧ x4 < S1.2.1 (V1 x0 36) ∧ CT l G bX12_value d mc1 ms1 [vr x0, vi (V1 (V1 x0 36) x4), vi x2, vi x3] S1 V1 (fun z4 S4 V4 mc4 ms4 => XJ l G bX12_both Q d 48 [vr x0, vi x1, vi x2, vi x3, vi x4, vi z4] [] S4 V4 mc4 ms4)) ∧ (¬ (z1 = 0) → S1.1 x0 = 13 ∧ S1.1 (V1 x0 36) = 20 ∧ 0 ≤ x4 ∧ x4 < S1.2.1 (V1 x0 36) ∧ XJ l G bX12_both Q d 3 [vr x0, vi x1, vi x2, vi x3, vi (V1 (V1 x0 36) x4), vu] [] S1 V1 mc1 ms1))) : XJ l G bX12_both Q d 3 [vr x0, vi x1, vi x2, vi x3, vi x4, vu] [] S V mc ms := by
  refine X_aload_n dX12_both_3 rfl ?_
  refine X_getfield (ci := 12) (k := 35) (v := vr (V x0 35)) dX12_both_4 rfl (by decide) kf_RX12_92 rfl h.1 ?_
  refine X_aload_n dX12_both_7 rfl ?_
  refine X_getfield (ci := 12) (k := 36) (v := vr (V x0 36)) dX12_both_8 rfl (by decide) kf_RX12_95 rfl h.1 ?_
  refine X_iload dX12_both_11 rfl ?_
  refine X_iaload dX12_both_13 h.2.1 h.2.2.1 h.2.2.2.1 ?_
  refine X_iaload dX12_both_14 h.2.2.2.2.1 h.2.2.2.2.2.1 h.2.2.2.2.2.2.1 ?_
  refine X_invS (as := [vi (V (V x0 35) (V (V x0 36) x4))]) (st := []) okX12_isTwo dX12_both_15 km_RX12_272 rfl rfl (Nat.le_of_ble_eq_true rfl) (CT.imp h.2.2.2.2.2.2.2 (fun z1 S1 V1 mc1 ms1 hc2 => ?_))
  refine X_if_eq dX12_both_18 (tgt := 33) rfl (fun c3 => ?_) (fun c3 => ?_)
  · refine X_aload_n dX12_both_33 rfl ?_
    refine X_aload_n dX12_both_34 rfl ?_
    refine X_getfield (ci := 12) (k := 36) (v := vr (V1 x0 36)) dX12_both_35 rfl (by decide) kf_RX12_95 rfl (hc2.1 c3).1 ?_
    refine X_iload dX12_both_38 rfl ?_
    refine X_iaload dX12_both_40 (hc2.1 c3).2.1 (hc2.1 c3).2.2.1 (hc2.1 c3).2.2.2.1 ?_
    refine X_iload_n dX12_both_41 rfl ?_
    refine X_iload_n dX12_both_42 rfl ?_
    refine X_invV (ci := 12) (as := [vi (V1 (V1 x0 36) x4), vi x2, vi x3]) (st := []) okX12_value dX12_both_43 km_RX12_422 rfl rfl (Nat.le_of_ble_eq_true rfl) rfl rfl (hc2.1 c3).1 (CT.imp (hc2.1 c3).2.2.2.2 (fun z4 S4 V4 mc4 ms4 hc5 => ?_))
    refine X_istore dX12_both_46 (by decide) rfl ?_
    exact hc5
  · refine X_aload_n dX12_both_21 rfl ?_
    refine X_getfield (ci := 12) (k := 36) (v := vr (V1 x0 36)) dX12_both_22 rfl (by decide) kf_RX12_95 rfl (hc2.2 c3).1 ?_
    refine X_iload dX12_both_25 rfl ?_
    refine X_iaload dX12_both_27 (hc2.2 c3).2.1 (hc2.2 c3).2.2.1 (hc2.2 c3).2.2.2.1 ?_
    refine X_istore dX12_both_28 (by decide) rfl ?_
    refine X_goto dX12_both_30 (tgt := 3) rfl ?_
    exact (hc2.2 c3).2.2.2.2
set_option maxRecDepth 10000 in
theorem vX12_both_48 {l : Launch} {G : GT} {Q : Int → Sh → Mem → Prop} {d : Nat} {S : Sh} {V : Mem} {mc ms : Nat} {x0 x1 x2 x3 x4 x5 : Int} (h : S.1 x0 = 13 ∧ S.1 (V x0 35) = 20 ∧ 0 ≤ x4 ∧ x4 < S.2.1 (V x0 35) ∧ S.1 (V x0 37) = 20 ∧ x4 < S.2.1 (V x0 37) ∧ CT l G bX12_value d mc ms [vr x0, vi (V (V x0 37) x4), vi x2, vi x3] S V (fun z1 S1 V1 mc1 ms1 => S1.1 x0 = 13 ∧ CT l G bX12_joined d mc1 ms1 [vr x0, vi (V (V x0 35) x4), vi x5, vi z1] S1 V1 (fun z3 S3 V3 mc3 ms3 => S3.1 x0 = 13 ∧ ((V3 x0 65) = 0 → (x4 ≠ x1 → S3.1 (V3 x0 38) = 20 ∧ 0 ≤ x4 ∧ x4 < S3.2.1 (V3 x0 38) ∧ XJ l G bX12_both Q d 48 [vr x0, vi x1, vi x2, vi x3, vi (V3 (V3 x0 38) x4), vi z3] [] S3 V3 mc3 ms3) ∧ (¬ (x4 ≠ x1) → Q z3 S3 V3)) ∧ (¬ ((V3 x0 65) = 0) → Q 0 S3 V3)))) : XJ l G bX12_both Q d 48 [vr x0, vi x1, vi x2, vi x3, vi x4, vi x5] [] S V mc ms := by
  refine X_aload_n dX12_both_48 rfl ?_
  refine X_aload_n dX12_both_49 rfl ?_
  refine X_getfield (ci := 12) (k := 35) (v := vr (V x0 35)) dX12_both_50 rfl (by decide) kf_RX12_92 rfl h.1 ?_
  refine X_iload dX12_both_53 rfl ?_
  refine X_iaload dX12_both_55 h.2.1 h.2.2.1 h.2.2.2.1 ?_
  refine X_iload dX12_both_56 rfl ?_
  refine X_aload_n dX12_both_58 rfl ?_
  refine X_aload_n dX12_both_59 rfl ?_
  refine X_getfield (ci := 12) (k := 37) (v := vr (V x0 37)) dX12_both_60 rfl (by decide) kf_RX12_98 rfl h.1 ?_
  refine X_iload dX12_both_63 rfl ?_
  refine X_iaload dX12_both_65 h.2.2.2.2.1 h.2.2.1 h.2.2.2.2.2.1 ?_
  refine X_iload_n dX12_both_66 rfl ?_
  refine X_iload_n dX12_both_67 rfl ?_
  refine X_invV (ci := 12) (as := [vi (V (V x0 37) x4), vi x2, vi x3]) (st := [vi x5, vi (V (V x0 35) x4), vr x0]) okX12_value dX12_both_68 km_RX12_422 rfl rfl (Nat.le_of_ble_eq_true rfl) rfl rfl h.1 (CT.imp h.2.2.2.2.2.2 (fun z1 S1 V1 mc1 ms1 hc2 => ?_))
  refine X_invV (ci := 12) (as := [vi (V (V x0 35) x4), vi x5, vi z1]) (st := []) okX12_joined dX12_both_71 km_RX12_436 rfl rfl (Nat.le_of_ble_eq_true rfl) rfl rfl hc2.1 (CT.imp hc2.2 (fun z3 S3 V3 mc3 ms3 hc4 => ?_))
  refine X_istore dX12_both_74 (by decide) rfl ?_
  refine X_aload_n dX12_both_76 rfl ?_
  refine X_getfield (ci := 12) (k := 65) (v := vi (V3 x0 65)) dX12_both_77 rfl (by decide) kf_RX12_401 rfl hc4.1 ?_
  refine X_if_eq dX12_both_80 (tgt := 85) rfl (fun c5 => ?_) (fun c5 => ?_)
  · refine X_iload dX12_both_85 rfl ?_
    refine X_iload_n dX12_both_87 rfl ?_
    refine X_icmp_ne dX12_both_88 (tgt := 94) rfl (fun c6 => ?_) (fun c6 => ?_)
    · refine X_aload_n dX12_both_94 rfl ?_
      refine X_getfield (ci := 12) (k := 38) (v := vr (V3 x0 38)) dX12_both_95 rfl (by decide) kf_RX12_101 rfl hc4.1 ?_
      refine X_iload dX12_both_98 rfl ?_
      refine X_iaload dX12_both_100 ((hc4.2.1 c5).1 c6).1 ((hc4.2.1 c5).1 c6).2.1 ((hc4.2.1 c5).1 c6).2.2.1 ?_
      refine X_istore dX12_both_101 (by decide) rfl ?_
      refine X_goto dX12_both_103 (tgt := 48) rfl ?_
      exact ((hc4.2.1 c5).1 c6).2.2.2
    · refine X_iload dX12_both_91 rfl ?_
      exact X_ret (z := z3) dX12_both_93 rfl (fun hv => vok_h hv) ((hc4.2.1 c5).2 c6)
  · refine X_iconst dX12_both_83 (by decide) ?_
    exact X_ret (z := 0) dX12_both_84 rfl (fun hv => vok_h hv) (hc4.2.2 c5)
theorem qX12_both {l : Launch} {G : GT} {Q : Int → Sh → Mem → Prop} {d : Nat} {S : Sh} {V : Mem} {mc ms : Nat} {x0 x1 x2 x3 : Int} (h : 0 ≤ x0 → inI x1 → inI x2 → inI x3 → XJ l G bX12_both Q d 0 [vr x0, vi x1, vi x2, vi x3, vu, vu] [] S V mc ms) : Ct l G bX12_both Q d mc ms [vr x0, vi x1, vi x2, vi x3] S V := Ct.of okX12_both.1 trivial (Nat.le_of_ble_eq_true rfl) (fun hv => h (hv _ (List.mem_of_getElem? (i := 0) rfl)) (hv _ (List.mem_of_getElem? (i := 1) rfl)) (hv _ (List.mem_of_getElem? (i := 2) rfl)) (hv _ (List.mem_of_getElem? (i := 3) rfl)))
set_option maxRecDepth 10000 in
theorem vX12_joined_0 {l : Launch} {G : GT} {Q : Int → Sh → Mem → Prop} {d : Nat} {S : Sh} {V : Mem} {mc ms : Nat} {x0 x1 x2 x3 : Int} (h : S.1 x0 = 13 ∧ ((V x0 65) = 0 → (x1 = 2 → Q (wr (x2 + x3)) S V) ∧ (¬ x1 = 2 → (x1 = 3 → Q (wr (x2 - x3)) S V) ∧ (¬ x1 = 3 → (x1 = 4 → Q (wr (x2 * x3)) S V) ∧ (¬ x1 = 4 → (x3 ≠ 0 → (x3 ≠ (-1) → x3 ≠ 0 ∧ Q (wr (x2.tdiv x3)) S V) ∧ (¬ (x3 ≠ (-1)) → Q (wr (-x2)) S V)) ∧ (¬ (x3 ≠ 0) → CT l G bX12_failing d mc ms [vr x0, vi 4, vi (-1)] S V (fun z7 S7 V7 mc7 ms7 => Q z7 S7 V7)))))) ∧ (¬ ((V x0 65) = 0) → Q 0 S V)) : XJ l G bX12_joined Q d 0 [vr x0, vi x1, vi x2, vi x3] [] S V mc ms := by
  refine X_aload_n dX12_joined_0 rfl ?_
  refine X_getfield (ci := 12) (k := 65) (v := vi (V x0 65)) dX12_joined_1 rfl (by decide) kf_RX12_401 rfl h.1 ?_
  refine X_if_eq dX12_joined_4 (tgt := 9) rfl (fun c1 => ?_) (fun c1 => ?_)
  · refine X_iload_n dX12_joined_9 rfl ?_
    by_cases c2 : x1 = 2
    · refine X_table dX12_joined_10 36 26 (by rw [c2]; rfl) rfl ?_
      refine X_iload_n dX12_joined_36 rfl ?_
      refine X_iload_n dX12_joined_37 rfl ?_
      refine X_iadd dX12_joined_38 ?_
      exact X_ret (z := (wr (x2 + x3))) dX12_joined_39 rfl (fun hv => vok_h hv) ((h.2.1 c1).1 c2)
    by_cases c3 : x1 = 3
    · refine X_table dX12_joined_10 40 30 (by rw [c3]; rfl) rfl ?_
      refine X_iload_n dX12_joined_40 rfl ?_
      refine X_iload_n dX12_joined_41 rfl ?_
      refine X_isub dX12_joined_42 ?_
      exact X_ret (z := (wr (x2 - x3))) dX12_joined_43 rfl (fun hv => vok_h hv) (((h.2.1 c1).2 c2).1 c3)
    by_cases c4 : x1 = 4
    · refine X_table dX12_joined_10 44 34 (by rw [c4]; rfl) rfl ?_
      refine X_iload_n dX12_joined_44 rfl ?_
      refine X_iload_n dX12_joined_45 rfl ?_
      refine X_imul dX12_joined_46 ?_
      exact X_ret (z := (wr (x2 * x3))) dX12_joined_47 rfl (fun hv => vok_h hv) ((((h.2.1 c1).2 c2).2 c3).1 c4)
    refine X_table dX12_joined_10 48 38 (tbl_df (by omega)) rfl ?_
    refine X_iload_n dX12_joined_48 rfl ?_
    refine X_if_ne dX12_joined_49 (tgt := 59) rfl (fun c5 => ?_) (fun c5 => ?_)
    · refine X_iload_n dX12_joined_59 rfl ?_
      refine X_iconst dX12_joined_60 (by decide) ?_
      refine X_icmp_ne dX12_joined_61 (tgt := 69) rfl (fun c6 => ?_) (fun c6 => ?_)
      · refine X_iload_n dX12_joined_69 rfl ?_
        refine X_iload_n dX12_joined_70 rfl ?_
        refine X_idiv dX12_joined_71 ((((((h.2.1 c1).2 c2).2 c3).2 c4).1 c5).1 c6).1 ?_
        exact X_ret (z := (wr (x2.tdiv x3))) dX12_joined_72 rfl (fun hv => vok_h hv) ((((((h.2.1 c1).2 c2).2 c3).2 c4).1 c5).1 c6).2
      · refine X_iload_n dX12_joined_64 rfl ?_
        refine X_ineg dX12_joined_65 ?_
        refine X_goto dX12_joined_66 (tgt := 72) rfl ?_
        exact X_ret (z := (wr (-x2))) dX12_joined_72 rfl (fun hv => vok_h hv) ((((((h.2.1 c1).2 c2).2 c3).2 c4).1 c5).2 c6)
    · refine X_aload_n dX12_joined_52 rfl ?_
      refine X_iconst dX12_joined_53 (by decide) ?_
      refine X_iconst dX12_joined_54 (by decide) ?_
      refine X_invV (ci := 12) (as := [vi 4, vi (-1)]) (st := []) okX12_failing dX12_joined_55 km_RX12_407 rfl rfl (Nat.le_of_ble_eq_true rfl) rfl rfl h.1 (CT.imp (((((h.2.1 c1).2 c2).2 c3).2 c4).2 c5) (fun z7 S7 V7 mc7 ms7 hc8 => ?_))
      exact X_ret (z := z7) dX12_joined_58 rfl (fun hv => vok_h hv) hc8
  · refine X_iconst dX12_joined_7 (by decide) ?_
    exact X_ret (z := 0) dX12_joined_8 rfl (fun hv => vok_h hv) (h.2.2 c1)
theorem qX12_joined {l : Launch} {G : GT} {Q : Int → Sh → Mem → Prop} {d : Nat} {S : Sh} {V : Mem} {mc ms : Nat} {x0 x1 x2 x3 : Int} (h : 0 ≤ x0 → inI x1 → inI x2 → inI x3 → XJ l G bX12_joined Q d 0 [vr x0, vi x1, vi x2, vi x3] [] S V mc ms) : Ct l G bX12_joined Q d mc ms [vr x0, vi x1, vi x2, vi x3] S V := Ct.of okX12_joined.1 trivial (Nat.le_of_ble_eq_true rfl) (fun hv => h (hv _ (List.mem_of_getElem? (i := 0) rfl)) (hv _ (List.mem_of_getElem? (i := 1) rfl)) (hv _ (List.mem_of_getElem? (i := 2) rfl)) (hv _ (List.mem_of_getElem? (i := 3) rfl)))
set_option maxRecDepth 10000 in
theorem vX12_isEnum_0 {l : Launch} {G : GT} {Q : Int → Sh → Mem → Prop} {d : Nat} {S : Sh} {V : Mem} {mc ms : Nat} {x0 x1 x2 : Int} (h : (x1 < 0 → Q 0 S V) ∧ (¬ (x1 < 0) → S.1 x0 = 13 ∧ ((V x0 8) ≤ x1 → Q 0 S V) ∧ (¬ ((V x0 8) ≤ x1) → (x2 < 0 → Q 0 S V) ∧ (¬ (x2 < 0) → S.1 (V x0 10) = 20 ∧ 0 ≤ x1 ∧ x1 < S.2.1 (V x0 10) ∧ ((V (V x0 10) x1) ≤ x2 → Q 0 S V) ∧ (¬ ((V (V x0 10) x1) ≤ x2) → Q 1 S V))))) : XJ l G bX12_isEnum Q d 0 [vr x0, vi x1, vi x2] [] S V mc ms := by
  refine X_iload_n dX12_isEnum_0 rfl ?_
  refine X_if_lt dX12_isEnum_1 (tgt := 30) rfl (fun c1 => ?_) (fun c1 => ?_)
  · refine X_iconst dX12_isEnum_30 (by decide) ?_
    exact X_ret (z := 0) dX12_isEnum_31 rfl (fun _ => Or.inl rfl) (h.1 c1)
  · refine X_iload_n dX12_isEnum_4 rfl ?_
    refine X_aload_n dX12_isEnum_5 rfl ?_
    refine X_getfield (ci := 12) (k := 8) (v := vi (V x0 8)) dX12_isEnum_6 rfl (by decide) kf_RX12_392 rfl (h.2 c1).1 ?_
    refine X_icmp_ge dX12_isEnum_9 (tgt := 30) rfl (fun c2 => ?_) (fun c2 => ?_)
    · refine X_iconst dX12_isEnum_30 (by decide) ?_
      exact X_ret (z := 0) dX12_isEnum_31 rfl (fun _ => Or.inl rfl) ((h.2 c1).2.1 c2)
    · refine X_iload_n dX12_isEnum_12 rfl ?_
      refine X_if_lt dX12_isEnum_13 (tgt := 30) rfl (fun c3 => ?_) (fun c3 => ?_)
      · refine X_iconst dX12_isEnum_30 (by decide) ?_
        exact X_ret (z := 0) dX12_isEnum_31 rfl (fun _ => Or.inl rfl) (((h.2 c1).2.2 c2).1 c3)
      · refine X_iload_n dX12_isEnum_16 rfl ?_
        refine X_aload_n dX12_isEnum_17 rfl ?_
        refine X_getfield (ci := 12) (k := 10) (v := vr (V x0 10)) dX12_isEnum_18 rfl (by decide) kf_RX12_16 rfl (h.2 c1).1 ?_
        refine X_iload_n dX12_isEnum_21 rfl ?_
        refine X_iaload dX12_isEnum_22 (((h.2 c1).2.2 c2).2 c3).1 (((h.2 c1).2.2 c2).2 c3).2.1 (((h.2 c1).2.2 c2).2 c3).2.2.1 ?_
        refine X_icmp_ge dX12_isEnum_23 (tgt := 30) rfl (fun c4 => ?_) (fun c4 => ?_)
        · refine X_iconst dX12_isEnum_30 (by decide) ?_
          exact X_ret (z := 0) dX12_isEnum_31 rfl (fun _ => Or.inl rfl) ((((h.2 c1).2.2 c2).2 c3).2.2.2.1 c4)
        · refine X_iconst dX12_isEnum_26 (by decide) ?_
          refine X_goto dX12_isEnum_27 (tgt := 31) rfl ?_
          exact X_ret (z := 1) dX12_isEnum_31 rfl (fun _ => Or.inr rfl) ((((h.2 c1).2.2 c2).2 c3).2.2.2.2 c4)
theorem qX12_isEnum {l : Launch} {G : GT} {Q : Int → Sh → Mem → Prop} {d : Nat} {S : Sh} {V : Mem} {mc ms : Nat} {x0 x1 x2 : Int} (h : 0 ≤ x0 → inI x1 → inI x2 → XJ l G bX12_isEnum Q d 0 [vr x0, vi x1, vi x2] [] S V mc ms) : Ct l G bX12_isEnum Q d mc ms [vr x0, vi x1, vi x2] S V := Ct.of okX12_isEnum.1 trivial (Nat.le_of_ble_eq_true rfl) (fun hv => h (hv _ (List.mem_of_getElem? (i := 0) rfl)) (hv _ (List.mem_of_getElem? (i := 1) rfl)) (hv _ (List.mem_of_getElem? (i := 2) rfl)))
set_option maxRecDepth 10000 in
theorem vX12_isConstant_0 {l : Launch} {G : GT} {Q : Int → Sh → Mem → Prop} {d : Nat} {S : Sh} {V : Mem} {mc ms : Nat} {x0 x1 x2 x3 : Int} (h : S.1 x0 = 13 ∧ CT l G bX12_isEnum d mc ms [vr x0, vi x1, vi x2] S V (fun z1 S1 V1 mc1 ms1 => (z1 = 0 → Q 0 S1 V1) ∧ (¬ (z1 = 0) → (x3 < 0 → Q 0 S1 V1) ∧ (¬ (x3 < 0) → S1.1 x0 = 13 ∧ -2147483648 ≤ 12 * x1 ∧ 12 * x1 ≤ 2147483647 ∧ -2147483648 ≤ (12 * x1) + x2 ∧ (12 * x1) + x2 ≤ 2147483647 ∧ S1.1 (V1 x0 14) = 20 ∧ 0 ≤ ((12 * x1) + x2) ∧ ((12 * x1) + x2) < S1.2.1 (V1 x0 14) ∧ ((V1 (V1 x0 14) ((12 * x1) + x2)) ≤ x3 → Q 0 S1 V1) ∧ (¬ ((V1 (V1 x0 14) ((12 * x1) + x2)) ≤ x3) → Q 1 S1 V1))))) : XJ l G bX12_isConstant Q d 0 [vr x0, vi x1, vi x2, vi x3] [] S V mc ms := by
  refine X_aload_n dX12_isConstant_0 rfl ?_
  refine X_iload_n dX12_isConstant_1 rfl ?_
  refine X_iload_n dX12_isConstant_2 rfl ?_
  refine X_invV (ci := 12) (as := [vi x1, vi x2]) (st := []) okX12_isEnum dX12_isConstant_3 km_RX12_439 rfl rfl (Nat.le_of_ble_eq_true rfl) rfl rfl h.1 (CT.imp h.2 (fun z1 S1 V1 mc1 ms1 hc2 => ?_))
  refine X_if_eq dX12_isConstant_6 (tgt := 32) rfl (fun c3 => ?_) (fun c3 => ?_)
  · refine X_iconst dX12_isConstant_32 (by decide) ?_
    exact X_ret (z := 0) dX12_isConstant_33 rfl (fun _ => Or.inl rfl) (hc2.1 c3)
  · refine X_iload_n dX12_isConstant_9 rfl ?_
    refine X_if_lt dX12_isConstant_10 (tgt := 32) rfl (fun c4 => ?_) (fun c4 => ?_)
    · refine X_iconst dX12_isConstant_32 (by decide) ?_
      exact X_ret (z := 0) dX12_isConstant_33 rfl (fun _ => Or.inl rfl) ((hc2.2 c3).1 c4)
    · refine X_iload_n dX12_isConstant_13 rfl ?_
      refine X_aload_n dX12_isConstant_14 rfl ?_
      refine X_getfield (ci := 12) (k := 14) (v := vr (V1 x0 14)) dX12_isConstant_15 rfl (by decide) kf_RX12_29 rfl ((hc2.2 c3).2 c4).1 ?_
      refine X_bipush dX12_isConstant_18 (by decide) (by decide) ?_
      refine X_iload_n dX12_isConstant_20 rfl ?_
      refine X_imulN dX12_isConstant_21 ((hc2.2 c3).2 c4).2.1 ((hc2.2 c3).2 c4).2.2.1 ?_
      refine X_iload_n dX12_isConstant_22 rfl ?_
      refine X_iaddN dX12_isConstant_23 ((hc2.2 c3).2 c4).2.2.2.1 ((hc2.2 c3).2 c4).2.2.2.2.1 ?_
      refine X_iaload dX12_isConstant_24 ((hc2.2 c3).2 c4).2.2.2.2.2.1 ((hc2.2 c3).2 c4).2.2.2.2.2.2.1 ((hc2.2 c3).2 c4).2.2.2.2.2.2.2.1 ?_
      refine X_icmp_ge dX12_isConstant_25 (tgt := 32) rfl (fun c5 => ?_) (fun c5 => ?_)
      · refine X_iconst dX12_isConstant_32 (by decide) ?_
        exact X_ret (z := 0) dX12_isConstant_33 rfl (fun _ => Or.inl rfl) (((hc2.2 c3).2 c4).2.2.2.2.2.2.2.2.1 c5)
      · refine X_iconst dX12_isConstant_28 (by decide) ?_
        refine X_goto dX12_isConstant_29 (tgt := 33) rfl ?_
        exact X_ret (z := 1) dX12_isConstant_33 rfl (fun _ => Or.inr rfl) (((hc2.2 c3).2 c4).2.2.2.2.2.2.2.2.2 c5)
theorem qX12_isConstant {l : Launch} {G : GT} {Q : Int → Sh → Mem → Prop} {d : Nat} {S : Sh} {V : Mem} {mc ms : Nat} {x0 x1 x2 x3 : Int} (h : 0 ≤ x0 → inI x1 → inI x2 → inI x3 → XJ l G bX12_isConstant Q d 0 [vr x0, vi x1, vi x2, vi x3] [] S V mc ms) : Ct l G bX12_isConstant Q d mc ms [vr x0, vi x1, vi x2, vi x3] S V := Ct.of okX12_isConstant.1 trivial (Nat.le_of_ble_eq_true rfl) (fun hv => h (hv _ (List.mem_of_getElem? (i := 0) rfl)) (hv _ (List.mem_of_getElem? (i := 1) rfl)) (hv _ (List.mem_of_getElem? (i := 2) rfl)) (hv _ (List.mem_of_getElem? (i := 3) rfl)))
set_option maxRecDepth 10000 in
theorem vX12_begin_0 {l : Launch} {G : GT} {Q : Int → Sh → Mem → Prop} {d : Nat} {S : Sh} {V : Mem} {mc ms : Nat} {x0 x1 : Int} (h : S.1 x0 = 13 ∧ Q 0 S (up (up (up V x0 9 x1) x0 65 0) x0 64 0)) : XJ l G bX12_begin Q d 0 [vr x0, vi x1] [] S V mc ms := by
  refine X_aload_n dX12_begin_0 rfl ?_
  refine X_iload_n dX12_begin_1 rfl ?_
  refine X_putfield (ci := 12) (k := 9) (z := x1) dX12_begin_2 rfl (by decide) kf_RX12_263 (Or.inl rfl) (Or.inl rfl) rfl (fun hv => hv) h.1 ?_
  refine X_aload_n dX12_begin_5 rfl ?_
  refine X_iconst dX12_begin_6 (by decide) ?_
  refine X_putfield (ci := 12) (k := 65) (z := 0) dX12_begin_7 rfl (by decide) kf_RX12_401 (Or.inr (Or.inr (Or.inl rfl))) (Or.inl rfl) rfl (fun _ => Or.inl rfl) h.1 ?_
  refine X_aload_n dX12_begin_10 rfl ?_
  refine X_iconst dX12_begin_11 (by decide) ?_
  refine X_putfield (ci := 12) (k := 64) (z := 0) dX12_begin_12 rfl (by decide) kf_RX12_413 (Or.inl rfl) (Or.inl rfl) rfl (fun hv => hv) h.1 ?_
  exact X_ret (z := 0) dX12_begin_15 rfl (fun _ => trivial) h.2
theorem qX12_begin {l : Launch} {G : GT} {Q : Int → Sh → Mem → Prop} {d : Nat} {S : Sh} {V : Mem} {mc ms : Nat} {x0 x1 : Int} (h : 0 ≤ x0 → inI x1 → XJ l G bX12_begin Q d 0 [vr x0, vi x1] [] S V mc ms) : Ct l G bX12_begin Q d mc ms [vr x0, vi x1] S V := Ct.of okX12_begin.1 trivial (Nat.le_of_ble_eq_true rfl) (fun hv => h (hv _ (List.mem_of_getElem? (i := 0) rfl)) (hv _ (List.mem_of_getElem? (i := 1) rfl)))
set_option maxRecDepth 10000 in
theorem vX12_ends_0 {l : Launch} {G : GT} {Q : Int → Sh → Mem → Prop} {d : Nat} {S : Sh} {V : Mem} {mc ms : Nat} {x0 x1 : Int} (h : S.1 x0 = 13 ∧ ((V x0 65) = 0 → Q 0 S (up V x0 69 x1)) ∧ (¬ ((V x0 65) = 0) → Q (-3) S V)) : XJ l G bX12_ends Q d 0 [vr x0, vi x1] [] S V mc ms := by
  refine X_aload_n dX12_ends_0 rfl ?_
  refine X_getfield (ci := 12) (k := 65) (v := vi (V x0 65)) dX12_ends_1 rfl (by decide) kf_RX12_401 rfl h.1 ?_
  refine X_if_eq dX12_ends_4 (tgt := 10) rfl (fun c1 => ?_) (fun c1 => ?_)
  · refine X_aload_n dX12_ends_10 rfl ?_
    refine X_iload_n dX12_ends_11 rfl ?_
    refine X_putfield (ci := 12) (k := 69) (z := x1) dX12_ends_12 rfl (by decide) kf_RX12_442 (Or.inl rfl) (Or.inl rfl) rfl (fun hv => hv) h.1 ?_
    refine X_iconst dX12_ends_15 (by decide) ?_
    exact X_ret (z := 0) dX12_ends_16 rfl (fun hv => vok_h hv) (h.2.1 c1)
  · refine X_bipush dX12_ends_7 (by decide) (by decide) ?_
    exact X_ret (z := (-3)) dX12_ends_9 rfl (fun hv => vok_h hv) (h.2.2 c1)
theorem qX12_ends {l : Launch} {G : GT} {Q : Int → Sh → Mem → Prop} {d : Nat} {S : Sh} {V : Mem} {mc ms : Nat} {x0 x1 : Int} (h : 0 ≤ x0 → inI x1 → XJ l G bX12_ends Q d 0 [vr x0, vi x1] [] S V mc ms) : Ct l G bX12_ends Q d mc ms [vr x0, vi x1] S V := Ct.of okX12_ends.1 trivial (Nat.le_of_ble_eq_true rfl) (fun hv => h (hv _ (List.mem_of_getElem? (i := 0) rfl)) (hv _ (List.mem_of_getElem? (i := 1) rfl)))
set_option maxRecDepth 10000 in
theorem vX12_uses_0 {l : Launch} {G : GT} {Q : Int → Sh → Mem → Prop} {d : Nat} {S : Sh} {V : Mem} {mc ms : Nat} {x0 x1 x2 : Int} (h : S.1 x0 = 13 ∧ CT l G bX12_begin d mc ms [vr x0, vi x1] S V (fun z1 S1 V1 mc1 ms1 => S1.1 x0 = 13 ∧ CT l G bX12_use d mc1 ms1 [vr x0, vi x2] S1 V1 (fun z3 S3 V3 mc3 ms3 => S3.1 x0 = 13 ∧ ((V3 x0 65) = 0 → Q 0 S3 V3) ∧ (¬ ((V3 x0 65) = 0) → Q (-3) S3 V3)))) : XJ l G bX12_uses Q d 0 [vr x0, vi x1, vi x2] [] S V mc ms := by
  refine X_aload_n dX12_uses_0 rfl ?_
  refine X_iload_n dX12_uses_1 rfl ?_
  refine X_invV (ci := 12) (as := [vi x1]) (st := []) okX12_begin dX12_uses_2 km_RX12_445 rfl rfl (Nat.le_of_ble_eq_true rfl) rfl rfl h.1 (CT.imp h.2 (fun z1 S1 V1 mc1 ms1 hc2 => ?_))
  refine X_aload_n dX12_uses_5 rfl ?_
  refine X_iload_n dX12_uses_6 rfl ?_
  refine X_invV (ci := 12) (as := [vi x2]) (st := []) okX12_use dX12_uses_7 km_RX12_424 rfl rfl (Nat.le_of_ble_eq_true rfl) rfl rfl hc2.1 (CT.imp hc2.2 (fun z3 S3 V3 mc3 ms3 hc4 => ?_))
  refine X_aload_n dX12_uses_10 rfl ?_
  refine X_getfield (ci := 12) (k := 65) (v := vi (V3 x0 65)) dX12_uses_11 rfl (by decide) kf_RX12_401 rfl hc4.1 ?_
  refine X_if_eq dX12_uses_14 (tgt := 22) rfl (fun c5 => ?_) (fun c5 => ?_)
  · refine X_iconst dX12_uses_22 (by decide) ?_
    exact X_ret (z := 0) dX12_uses_23 rfl (fun hv => vok_h hv) (hc4.2.1 c5)
  · refine X_bipush dX12_uses_17 (by decide) (by decide) ?_
    refine X_goto dX12_uses_19 (tgt := 23) rfl ?_
    exact X_ret (z := (-3)) dX12_uses_23 rfl (fun hv => vok_h hv) (hc4.2.2 c5)
theorem qX12_uses {l : Launch} {G : GT} {Q : Int → Sh → Mem → Prop} {d : Nat} {S : Sh} {V : Mem} {mc ms : Nat} {x0 x1 x2 : Int} (h : 0 ≤ x0 → inI x1 → inI x2 → XJ l G bX12_uses Q d 0 [vr x0, vi x1, vi x2] [] S V mc ms) : Ct l G bX12_uses Q d mc ms [vr x0, vi x1, vi x2] S V := Ct.of okX12_uses.1 trivial (Nat.le_of_ble_eq_true rfl) (fun hv => h (hv _ (List.mem_of_getElem? (i := 0) rfl)) (hv _ (List.mem_of_getElem? (i := 1) rfl)) (hv _ (List.mem_of_getElem? (i := 2) rfl)))
set_option maxRecDepth 10000 in
theorem vX12_told_0 {l : Launch} {G : GT} {Q : Int → Sh → Mem → Prop} {d : Nat} {S : Sh} {V : Mem} {mc ms : Nat} {x0 x1 x2 : Int} (h : (x1 < 0 → Q (-1) S V) ∧ (¬ (x1 < 0) → S.1 x0 = 13 ∧ (x1 < (V x0 8) → (x2 = 0 → S.1 (V x0 10) = 20 ∧ 0 ≤ x1 ∧ x1 < S.2.1 (V x0 10) ∧ Q (V (V x0 10) x1) S V) ∧ (¬ x2 = 0 → (x2 = 1 → S.1 (V x0 11) = 20 ∧ 0 ≤ x1 ∧ x1 < S.2.1 (V x0 11) ∧ Q (V (V x0 11) x1) S V) ∧ (¬ x2 = 1 → (x2 = 2 → S.1 (V x0 59) = 20 ∧ 0 ≤ x1 ∧ x1 < S.2.1 (V x0 59) ∧ Q (V (V x0 59) x1) S V) ∧ (¬ x2 = 2 → (x2 = 3 → S.1 (V x0 62) = 20 ∧ 0 ≤ x1 ∧ x1 < S.2.1 (V x0 62) ∧ Q (V (V x0 62) x1) S V) ∧ (¬ x2 = 3 → Q (-1) S V))))) ∧ (¬ (x1 < (V x0 8)) → Q (-1) S V))) : XJ l G bX12_told Q d 0 [vr x0, vi x1, vi x2] [] S V mc ms := by
  refine X_iload_n dX12_told_0 rfl ?_
  refine X_if_lt dX12_told_1 (tgt := 12) rfl (fun c1 => ?_) (fun c1 => ?_)
  · refine X_iconst dX12_told_12 (by decide) ?_
    exact X_ret (z := (-1)) dX12_told_13 rfl (fun hv => vok_h hv) (h.1 c1)
  · refine X_iload_n dX12_told_4 rfl ?_
    refine X_aload_n dX12_told_5 rfl ?_
    refine X_getfield (ci := 12) (k := 8) (v := vi (V x0 8)) dX12_told_6 rfl (by decide) kf_RX12_392 rfl (h.2 c1).1 ?_
    refine X_icmp_lt dX12_told_9 (tgt := 14) rfl (fun c2 => ?_) (fun c2 => ?_)
    · refine X_iload_n dX12_told_14 rfl ?_
      by_cases c3 : x2 = 0
      · refine X_table dX12_told_15 44 29 (by rw [c3]; rfl) rfl ?_
        refine X_aload_n dX12_told_44 rfl ?_
        refine X_getfield (ci := 12) (k := 10) (v := vr (V x0 10)) dX12_told_45 rfl (by decide) kf_RX12_16 rfl (h.2 c1).1 ?_
        refine X_iload_n dX12_told_48 rfl ?_
        refine X_iaload dX12_told_49 (((h.2 c1).2.1 c2).1 c3).1 (((h.2 c1).2.1 c2).1 c3).2.1 (((h.2 c1).2.1 c2).1 c3).2.2.1 ?_
        exact X_ret (z := (V (V x0 10) x1)) dX12_told_50 rfl (fun hv => vok_h hv) (((h.2 c1).2.1 c2).1 c3).2.2.2
      by_cases c4 : x2 = 1
      · refine X_table dX12_told_15 51 36 (by rw [c4]; rfl) rfl ?_
        refine X_aload_n dX12_told_51 rfl ?_
        refine X_getfield (ci := 12) (k := 11) (v := vr (V x0 11)) dX12_told_52 rfl (by decide) kf_RX12_20 rfl (h.2 c1).1 ?_
        refine X_iload_n dX12_told_55 rfl ?_
        refine X_iaload dX12_told_56 ((((h.2 c1).2.1 c2).2 c3).1 c4).1 ((((h.2 c1).2.1 c2).2 c3).1 c4).2.1 ((((h.2 c1).2.1 c2).2 c3).1 c4).2.2.1 ?_
        exact X_ret (z := (V (V x0 11) x1)) dX12_told_57 rfl (fun hv => vok_h hv) ((((h.2 c1).2.1 c2).2 c3).1 c4).2.2.2
      by_cases c5 : x2 = 2
      · refine X_table dX12_told_15 58 43 (by rw [c5]; rfl) rfl ?_
        refine X_aload_n dX12_told_58 rfl ?_
        refine X_getfield (ci := 12) (k := 59) (v := vr (V x0 59)) dX12_told_59 rfl (by decide) kf_RX12_137 rfl (h.2 c1).1 ?_
        refine X_iload_n dX12_told_62 rfl ?_
        refine X_iaload dX12_told_63 (((((h.2 c1).2.1 c2).2 c3).2 c4).1 c5).1 (((((h.2 c1).2.1 c2).2 c3).2 c4).1 c5).2.1 (((((h.2 c1).2.1 c2).2 c3).2 c4).1 c5).2.2.1 ?_
        exact X_ret (z := (V (V x0 59) x1)) dX12_told_64 rfl (fun hv => vok_h hv) (((((h.2 c1).2.1 c2).2 c3).2 c4).1 c5).2.2.2
      by_cases c6 : x2 = 3
      · refine X_table dX12_told_15 65 50 (by rw [c6]; rfl) rfl ?_
        refine X_aload_n dX12_told_65 rfl ?_
        refine X_getfield (ci := 12) (k := 62) (v := vr (V x0 62)) dX12_told_66 rfl (by decide) kf_RX12_146 rfl (h.2 c1).1 ?_
        refine X_iload_n dX12_told_69 rfl ?_
        refine X_iaload dX12_told_70 ((((((h.2 c1).2.1 c2).2 c3).2 c4).2 c5).1 c6).1 ((((((h.2 c1).2.1 c2).2 c3).2 c4).2 c5).1 c6).2.1 ((((((h.2 c1).2.1 c2).2 c3).2 c4).2 c5).1 c6).2.2.1 ?_
        exact X_ret (z := (V (V x0 62) x1)) dX12_told_71 rfl (fun hv => vok_h hv) ((((((h.2 c1).2.1 c2).2 c3).2 c4).2 c5).1 c6).2.2.2
      refine X_table dX12_told_15 72 57 (tbl_df (by omega)) rfl ?_
      refine X_iconst dX12_told_72 (by decide) ?_
      exact X_ret (z := (-1)) dX12_told_73 rfl (fun hv => vok_h hv) ((((((h.2 c1).2.1 c2).2 c3).2 c4).2 c5).2 c6)
    · refine X_iconst dX12_told_12 (by decide) ?_
      exact X_ret (z := (-1)) dX12_told_13 rfl (fun hv => vok_h hv) ((h.2 c1).2.2 c2)
theorem qX12_told {l : Launch} {G : GT} {Q : Int → Sh → Mem → Prop} {d : Nat} {S : Sh} {V : Mem} {mc ms : Nat} {x0 x1 x2 : Int} (h : 0 ≤ x0 → inI x1 → inI x2 → XJ l G bX12_told Q d 0 [vr x0, vi x1, vi x2] [] S V mc ms) : Ct l G bX12_told Q d mc ms [vr x0, vi x1, vi x2] S V := Ct.of okX12_told.1 trivial (Nat.le_of_ble_eq_true rfl) (fun hv => h (hv _ (List.mem_of_getElem? (i := 0) rfl)) (hv _ (List.mem_of_getElem? (i := 1) rfl)) (hv _ (List.mem_of_getElem? (i := 2) rfl)))
set_option maxRecDepth 10000 in
theorem vX12_about_0 {l : Launch} {G : GT} {Q : Int → Sh → Mem → Prop} {d : Nat} {S : Sh} {V : Mem} {mc ms : Nat} {x0 x1 x2 x3 : Int} (h : S.1 x0 = 13 ∧ CT l G bX12_isEnum d mc ms [vr x0, vi x1, vi x2] S V (fun z1 S1 V1 mc1 ms1 => (z1 ≠ 0 → -2147483648 ≤ 12 * x1 ∧ 12 * x1 ≤ 2147483647 ∧ -2147483648 ≤ (12 * x1) + x2 ∧ (12 * x1) + x2 ≤ 2147483647 ∧ (x3 = 0 → S1.1 x0 = 13 ∧ S1.1 (V1 x0 14) = 20 ∧ 0 ≤ ((12 * x1) + x2) ∧ ((12 * x1) + x2) < S1.2.1 (V1 x0 14) ∧ Q (V1 (V1 x0 14) ((12 * x1) + x2)) S1 V1) ∧ (¬ x3 = 0 → (x3 = 1 → S1.1 x0 = 13 ∧ S1.1 (V1 x0 15) = 20 ∧ 0 ≤ ((12 * x1) + x2) ∧ ((12 * x1) + x2) < S1.2.1 (V1 x0 15) ∧ Q (V1 (V1 x0 15) ((12 * x1) + x2)) S1 V1) ∧ (¬ x3 = 1 → (x3 = 2 → S1.1 x0 = 13 ∧ S1.1 (V1 x0 16) = 20 ∧ 0 ≤ ((12 * x1) + x2) ∧ ((12 * x1) + x2) < S1.2.1 (V1 x0 16) ∧ Q (V1 (V1 x0 16) ((12 * x1) + x2)) S1 V1) ∧ (¬ x3 = 2 → (x3 = 3 → S1.1 x0 = 13 ∧ S1.1 (V1 x0 17) = 20 ∧ 0 ≤ ((12 * x1) + x2) ∧ ((12 * x1) + x2) < S1.2.1 (V1 x0 17) ∧ Q (V1 (V1 x0 17) ((12 * x1) + x2)) S1 V1) ∧ (¬ x3 = 3 → (x3 = 4 → S1.1 x0 = 13 ∧ S1.1 (V1 x0 18) = 20 ∧ 0 ≤ ((12 * x1) + x2) ∧ ((12 * x1) + x2) < S1.2.1 (V1 x0 18) ∧ Q (V1 (V1 x0 18) ((12 * x1) + x2)) S1 V1) ∧ (¬ x3 = 4 → Q (-1) S1 V1)))))) ∧ (¬ (z1 ≠ 0) → Q (-1) S1 V1))) : XJ l G bX12_about Q d 0 [vr x0, vi x1, vi x2, vi x3, vu] [] S V mc ms := by
  refine X_aload_n dX12_about_0 rfl ?_
  refine X_iload_n dX12_about_1 rfl ?_
  refine X_iload_n dX12_about_2 rfl ?_
  refine X_invV (ci := 12) (as := [vi x1, vi x2]) (st := []) okX12_isEnum dX12_about_3 km_RX12_439 rfl rfl (Nat.le_of_ble_eq_true rfl) rfl rfl h.1 (CT.imp h.2 (fun z1 S1 V1 mc1 ms1 hc2 => ?_))
  refine X_if_ne dX12_about_6 (tgt := 11) rfl (fun c3 => ?_) (fun c3 => ?_)
  · refine X_bipush dX12_about_11 (by decide) (by decide) ?_
    refine X_iload_n dX12_about_13 rfl ?_
    refine X_imulN dX12_about_14 (hc2.1 c3).1 (hc2.1 c3).2.1 ?_
    refine X_iload_n dX12_about_15 rfl ?_
    refine X_iaddN dX12_about_16 (hc2.1 c3).2.2.1 (hc2.1 c3).2.2.2.1 ?_
    refine X_istore dX12_about_17 (by decide) rfl ?_
    refine X_iload_n dX12_about_19 rfl ?_
    by_cases c4 : x3 = 0
    · refine X_table dX12_about_20 56 36 (by rw [c4]; rfl) rfl ?_
      refine X_aload_n dX12_about_56 rfl ?_
      refine X_getfield (ci := 12) (k := 14) (v := vr (V1 x0 14)) dX12_about_57 rfl (by decide) kf_RX12_29 rfl ((hc2.1 c3).2.2.2.2.1 c4).1 ?_
      refine X_iload dX12_about_60 rfl ?_
      refine X_iaload dX12_about_62 ((hc2.1 c3).2.2.2.2.1 c4).2.1 ((hc2.1 c3).2.2.2.2.1 c4).2.2.1 ((hc2.1 c3).2.2.2.2.1 c4).2.2.2.1 ?_
      exact X_ret (z := (V1 (V1 x0 14) ((12 * x1) + x2))) dX12_about_63 rfl (fun hv => vok_h hv) ((hc2.1 c3).2.2.2.2.1 c4).2.2.2.2
    by_cases c5 : x3 = 1
    · refine X_table dX12_about_20 64 44 (by rw [c5]; rfl) rfl ?_
      refine X_aload_n dX12_about_64 rfl ?_
      refine X_getfield (ci := 12) (k := 15) (v := vr (V1 x0 15)) dX12_about_65 rfl (by decide) kf_RX12_32 rfl (((hc2.1 c3).2.2.2.2.2 c4).1 c5).1 ?_
      refine X_iload dX12_about_68 rfl ?_
      refine X_iaload dX12_about_70 (((hc2.1 c3).2.2.2.2.2 c4).1 c5).2.1 (((hc2.1 c3).2.2.2.2.2 c4).1 c5).2.2.1 (((hc2.1 c3).2.2.2.2.2 c4).1 c5).2.2.2.1 ?_
      exact X_ret (z := (V1 (V1 x0 15) ((12 * x1) + x2))) dX12_about_71 rfl (fun hv => vok_h hv) (((hc2.1 c3).2.2.2.2.2 c4).1 c5).2.2.2.2
    by_cases c6 : x3 = 2
    · refine X_table dX12_about_20 72 52 (by rw [c6]; rfl) rfl ?_
      refine X_aload_n dX12_about_72 rfl ?_
      refine X_getfield (ci := 12) (k := 16) (v := vr (V1 x0 16)) dX12_about_73 rfl (by decide) kf_RX12_35 rfl ((((hc2.1 c3).2.2.2.2.2 c4).2 c5).1 c6).1 ?_
      refine X_iload dX12_about_76 rfl ?_
      refine X_iaload dX12_about_78 ((((hc2.1 c3).2.2.2.2.2 c4).2 c5).1 c6).2.1 ((((hc2.1 c3).2.2.2.2.2 c4).2 c5).1 c6).2.2.1 ((((hc2.1 c3).2.2.2.2.2 c4).2 c5).1 c6).2.2.2.1 ?_
      exact X_ret (z := (V1 (V1 x0 16) ((12 * x1) + x2))) dX12_about_79 rfl (fun hv => vok_h hv) ((((hc2.1 c3).2.2.2.2.2 c4).2 c5).1 c6).2.2.2.2
    by_cases c7 : x3 = 3
    · refine X_table dX12_about_20 80 60 (by rw [c7]; rfl) rfl ?_
      refine X_aload_n dX12_about_80 rfl ?_
      refine X_getfield (ci := 12) (k := 17) (v := vr (V1 x0 17)) dX12_about_81 rfl (by decide) kf_RX12_38 rfl (((((hc2.1 c3).2.2.2.2.2 c4).2 c5).2 c6).1 c7).1 ?_
      refine X_iload dX12_about_84 rfl ?_
      refine X_iaload dX12_about_86 (((((hc2.1 c3).2.2.2.2.2 c4).2 c5).2 c6).1 c7).2.1 (((((hc2.1 c3).2.2.2.2.2 c4).2 c5).2 c6).1 c7).2.2.1 (((((hc2.1 c3).2.2.2.2.2 c4).2 c5).2 c6).1 c7).2.2.2.1 ?_
      exact X_ret (z := (V1 (V1 x0 17) ((12 * x1) + x2))) dX12_about_87 rfl (fun hv => vok_h hv) (((((hc2.1 c3).2.2.2.2.2 c4).2 c5).2 c6).1 c7).2.2.2.2
    by_cases c8 : x3 = 4
    · refine X_table dX12_about_20 88 68 (by rw [c8]; rfl) rfl ?_
      refine X_aload_n dX12_about_88 rfl ?_
      refine X_getfield (ci := 12) (k := 18) (v := vr (V1 x0 18)) dX12_about_89 rfl (by decide) kf_RX12_41 rfl ((((((hc2.1 c3).2.2.2.2.2 c4).2 c5).2 c6).2 c7).1 c8).1 ?_
      refine X_iload dX12_about_92 rfl ?_
      refine X_iaload dX12_about_94 ((((((hc2.1 c3).2.2.2.2.2 c4).2 c5).2 c6).2 c7).1 c8).2.1 ((((((hc2.1 c3).2.2.2.2.2 c4).2 c5).2 c6).2 c7).1 c8).2.2.1 ((((((hc2.1 c3).2.2.2.2.2 c4).2 c5).2 c6).2 c7).1 c8).2.2.2.1 ?_
      exact X_ret (z := (V1 (V1 x0 18) ((12 * x1) + x2))) dX12_about_95 rfl (fun hv => vok_h hv) ((((((hc2.1 c3).2.2.2.2.2 c4).2 c5).2 c6).2 c7).1 c8).2.2.2.2
    refine X_table dX12_about_20 96 76 (tbl_df (by omega)) rfl ?_
    refine X_iconst dX12_about_96 (by decide) ?_
    exact X_ret (z := (-1)) dX12_about_97 rfl (fun hv => vok_h hv) ((((((hc2.1 c3).2.2.2.2.2 c4).2 c5).2 c6).2 c7).2 c8)
  · refine X_iconst dX12_about_9 (by decide) ?_
    exact X_ret (z := (-1)) dX12_about_10 rfl (fun hv => vok_h hv) (hc2.2 c3)
theorem qX12_about {l : Launch} {G : GT} {Q : Int → Sh → Mem → Prop} {d : Nat} {S : Sh} {V : Mem} {mc ms : Nat} {x0 x1 x2 x3 : Int} (h : 0 ≤ x0 → inI x1 → inI x2 → inI x3 → XJ l G bX12_about Q d 0 [vr x0, vi x1, vi x2, vi x3, vu] [] S V mc ms) : Ct l G bX12_about Q d mc ms [vr x0, vi x1, vi x2, vi x3] S V := Ct.of okX12_about.1 trivial (Nat.le_of_ble_eq_true rfl) (fun hv => h (hv _ (List.mem_of_getElem? (i := 0) rfl)) (hv _ (List.mem_of_getElem? (i := 1) rfl)) (hv _ (List.mem_of_getElem? (i := 2) rfl)) (hv _ (List.mem_of_getElem? (i := 3) rfl)))
set_option maxRecDepth 10000 in
theorem vX12_isItem_0 {l : Launch} {G : GT} {Q : Int → Sh → Mem → Prop} {d : Nat} {S : Sh} {V : Mem} {mc ms : Nat} {x0 x1 x2 : Int} (h : (100 ≤ x2 → -2147483648 ≤ x2 - 100 ∧ x2 - 100 ≤ 2147483647 ∧ S.1 x0 = 13 ∧ CT l G bX12_isEnum d mc ms [vr x0, vi x1, vi ((x2 - 100).tdiv 4)] S V (fun z2 S2 V2 mc2 ms2 => (z2 = 0 → Q 0 S2 V2) ∧ (¬ (z2 = 0) → S2.1 x0 = 13 ∧ -2147483648 ≤ 12 * x1 ∧ 12 * x1 ≤ 2147483647 ∧ -2147483648 ≤ (12 * x1) + ((x2 - 100).tdiv 4) ∧ (12 * x1) + ((x2 - 100).tdiv 4) ≤ 2147483647 ∧ S2.1 (V2 x0 17) = 20 ∧ 0 ≤ ((12 * x1) + ((x2 - 100).tdiv 4)) ∧ ((12 * x1) + ((x2 - 100).tdiv 4)) < S2.2.1 (V2 x0 17) ∧ ((V2 (V2 x0 17) ((12 * x1) + ((x2 - 100).tdiv 4))) ≤ ((x2 - 100).tmod 4) → Q 0 S2 V2) ∧ (¬ ((V2 (V2 x0 17) ((12 * x1) + ((x2 - 100).tdiv 4))) ≤ ((x2 - 100).tmod 4)) → Q 1 S2 V2)))) ∧ (¬ (100 ≤ x2) → S.1 x0 = 13 ∧ CT l G bX12_isEnum d mc ms [vr x0, vi x1, vi x2] S V (fun z6 S6 V6 mc6 ms6 => (z6 = 0 ∨ z6 = 1) ∧ Q z6 S6 V6))) : XJ l G bX12_isItem Q d 0 [vr x0, vi x1, vi x2, vu] [] S V mc ms := by
  refine X_iload_n dX12_isItem_0 rfl ?_
  refine X_bipush dX12_isItem_1 (by decide) (by decide) ?_
  refine X_icmp_ge dX12_isItem_3 (tgt := 13) rfl (fun c1 => ?_) (fun c1 => ?_)
  · refine X_iload_n dX12_isItem_13 rfl ?_
    refine X_bipush dX12_isItem_14 (by decide) (by decide) ?_
    refine X_isubN dX12_isItem_16 (h.1 c1).1 (h.1 c1).2.1 ?_
    refine X_istore_n dX12_isItem_17 (by decide) rfl ?_
    refine X_aload_n dX12_isItem_18 rfl ?_
    refine X_iload_n dX12_isItem_19 rfl ?_
    refine X_iload_n dX12_isItem_20 rfl ?_
    refine X_iconst dX12_isItem_21 (by decide) ?_
    refine X_idivP dX12_isItem_22 (by decide) ?_
    refine X_invV (ci := 12) (as := [vi x1, vi ((x2 - 100).tdiv 4)]) (st := []) okX12_isEnum dX12_isItem_23 km_RX12_439 rfl rfl (Nat.le_of_ble_eq_true rfl) rfl rfl (h.1 c1).2.2.1 (CT.imp (h.1 c1).2.2.2 (fun z2 S2 V2 mc2 ms2 hc3 => ?_))
    refine X_if_eq dX12_isItem_26 (tgt := 52) rfl (fun c4 => ?_) (fun c4 => ?_)
    · refine X_iconst dX12_isItem_52 (by decide) ?_
      exact X_ret (z := 0) dX12_isItem_53 rfl (fun _ => Or.inl rfl) (hc3.1 c4)
    · refine X_iload_n dX12_isItem_29 rfl ?_
      refine X_iconst dX12_isItem_30 (by decide) ?_
      refine X_iremP dX12_isItem_31 (by decide) ?_
      refine X_aload_n dX12_isItem_32 rfl ?_
      refine X_getfield (ci := 12) (k := 17) (v := vr (V2 x0 17)) dX12_isItem_33 rfl (by decide) kf_RX12_38 rfl (hc3.2 c4).1 ?_
      refine X_bipush dX12_isItem_36 (by decide) (by decide) ?_
      refine X_iload_n dX12_isItem_38 rfl ?_
      refine X_imulN dX12_isItem_39 (hc3.2 c4).2.1 (hc3.2 c4).2.2.1 ?_
      refine X_iload_n dX12_isItem_40 rfl ?_
      refine X_iconst dX12_isItem_41 (by decide) ?_
      refine X_idivP dX12_isItem_42 (by decide) ?_
      refine X_iaddN dX12_isItem_43 (hc3.2 c4).2.2.2.1 (hc3.2 c4).2.2.2.2.1 ?_
      refine X_iaload dX12_isItem_44 (hc3.2 c4).2.2.2.2.2.1 (hc3.2 c4).2.2.2.2.2.2.1 (hc3.2 c4).2.2.2.2.2.2.2.1 ?_
      refine X_icmp_ge dX12_isItem_45 (tgt := 52) rfl (fun c5 => ?_) (fun c5 => ?_)
      · refine X_iconst dX12_isItem_52 (by decide) ?_
        exact X_ret (z := 0) dX12_isItem_53 rfl (fun _ => Or.inl rfl) ((hc3.2 c4).2.2.2.2.2.2.2.2.1 c5)
      · refine X_iconst dX12_isItem_48 (by decide) ?_
        refine X_goto dX12_isItem_49 (tgt := 53) rfl ?_
        exact X_ret (z := 1) dX12_isItem_53 rfl (fun _ => Or.inr rfl) ((hc3.2 c4).2.2.2.2.2.2.2.2.2 c5)
  · refine X_aload_n dX12_isItem_6 rfl ?_
    refine X_iload_n dX12_isItem_7 rfl ?_
    refine X_iload_n dX12_isItem_8 rfl ?_
    refine X_invV (ci := 12) (as := [vi x1, vi x2]) (st := []) okX12_isEnum dX12_isItem_9 km_RX12_439 rfl rfl (Nat.le_of_ble_eq_true rfl) rfl rfl (h.2 c1).1 (CT.imp (h.2 c1).2 (fun z6 S6 V6 mc6 ms6 hc7 => ?_))
    exact X_ret (z := z6) dX12_isItem_12 rfl (fun _ => hc7.1) hc7.2
theorem qX12_isItem {l : Launch} {G : GT} {Q : Int → Sh → Mem → Prop} {d : Nat} {S : Sh} {V : Mem} {mc ms : Nat} {x0 x1 x2 : Int} (h : 0 ≤ x0 → inI x1 → inI x2 → XJ l G bX12_isItem Q d 0 [vr x0, vi x1, vi x2, vu] [] S V mc ms) : Ct l G bX12_isItem Q d mc ms [vr x0, vi x1, vi x2] S V := Ct.of okX12_isItem.1 trivial (Nat.le_of_ble_eq_true rfl) (fun hv => h (hv _ (List.mem_of_getElem? (i := 0) rfl)) (hv _ (List.mem_of_getElem? (i := 1) rfl)) (hv _ (List.mem_of_getElem? (i := 2) rfl)))
set_option maxRecDepth 10000 in
theorem vX12_state_0 {l : Launch} {G : GT} {Q : Int → Sh → Mem → Prop} {d : Nat} {S : Sh} {V : Mem} {mc ms : Nat} {x0 x1 x2 : Int} (h : S.1 x0 = 13 ∧ CT l G bX12_isItem d mc ms [vr x0, vi x1, vi x2] S V (fun z1 S1 V1 mc1 ms1 => (z1 = 0 → Q (-1) S1 V1) ∧ (¬ (z1 = 0) → S1.1 x0 = 13 ∧ -2147483648 ≤ 160 * x1 ∧ 160 * x1 ≤ 2147483647 ∧ -2147483648 ≤ (160 * x1) + x2 ∧ (160 * x1) + x2 ≤ 2147483647 ∧ S1.1 (V1 x0 52) = 20 ∧ 0 ≤ ((160 * x1) + x2) ∧ ((160 * x1) + x2) < S1.2.1 (V1 x0 52) ∧ Q (V1 (V1 x0 52) ((160 * x1) + x2)) S1 V1))) : XJ l G bX12_state Q d 0 [vr x0, vi x1, vi x2] [] S V mc ms := by
  refine X_aload_n dX12_state_0 rfl ?_
  refine X_iload_n dX12_state_1 rfl ?_
  refine X_iload_n dX12_state_2 rfl ?_
  refine X_invV (ci := 12) (as := [vi x1, vi x2]) (st := []) okX12_isItem dX12_state_3 km_RX12_448 rfl rfl (Nat.le_of_ble_eq_true rfl) rfl rfl h.1 (CT.imp h.2 (fun z1 S1 V1 mc1 ms1 hc2 => ?_))
  refine X_if_eq dX12_state_6 (tgt := 24) rfl (fun c3 => ?_) (fun c3 => ?_)
  · refine X_iconst dX12_state_24 (by decide) ?_
    exact X_ret (z := (-1)) dX12_state_25 rfl (fun hv => vok_h hv) (hc2.1 c3)
  · refine X_aload_n dX12_state_9 rfl ?_
    refine X_getfield (ci := 12) (k := 52) (v := vr (V1 x0 52)) dX12_state_10 rfl (by decide) kf_RX12_116 rfl (hc2.2 c3).1 ?_
    refine X_sipush dX12_state_13 (by decide) (by decide) ?_
    refine X_iload_n dX12_state_16 rfl ?_
    refine X_imulN dX12_state_17 (hc2.2 c3).2.1 (hc2.2 c3).2.2.1 ?_
    refine X_iload_n dX12_state_18 rfl ?_
    refine X_iaddN dX12_state_19 (hc2.2 c3).2.2.2.1 (hc2.2 c3).2.2.2.2.1 ?_
    refine X_iaload dX12_state_20 (hc2.2 c3).2.2.2.2.2.1 (hc2.2 c3).2.2.2.2.2.2.1 (hc2.2 c3).2.2.2.2.2.2.2.1 ?_
    refine X_goto dX12_state_21 (tgt := 25) rfl ?_
    exact X_ret (z := (V1 (V1 x0 52) ((160 * x1) + x2))) dX12_state_25 rfl (fun hv => vok_h hv) (hc2.2 c3).2.2.2.2.2.2.2.2
theorem qX12_state {l : Launch} {G : GT} {Q : Int → Sh → Mem → Prop} {d : Nat} {S : Sh} {V : Mem} {mc ms : Nat} {x0 x1 x2 : Int} (h : 0 ≤ x0 → inI x1 → inI x2 → XJ l G bX12_state Q d 0 [vr x0, vi x1, vi x2] [] S V mc ms) : Ct l G bX12_state Q d mc ms [vr x0, vi x1, vi x2] S V := Ct.of okX12_state.1 trivial (Nat.le_of_ble_eq_true rfl) (fun hv => h (hv _ (List.mem_of_getElem? (i := 0) rfl)) (hv _ (List.mem_of_getElem? (i := 1) rfl)) (hv _ (List.mem_of_getElem? (i := 2) rfl)))
set_option maxRecDepth 10000 in
theorem vX12_letter_0 {l : Launch} {G : GT} {Q : Int → Sh → Mem → Prop} {d : Nat} {S : Sh} {V : Mem} {mc ms : Nat} {x0 x1 x2 x3 x4 : Int} (h : (x3 ≠ (-1) → S.1 x0 = 13 ∧ CT l G bX12_isConstant d mc ms [vr x0, vi x1, vi x2, vi x3] S V (fun z2 S2 V2 mc2 ms2 => (z2 ≠ 0 → -2147483648 ≤ 12 * x1 ∧ 12 * x1 ≤ 2147483647 ∧ -2147483648 ≤ (12 * x1) + x2 ∧ (12 * x1) + x2 ≤ 2147483647 ∧ (x3 ≠ (-1) → S2.1 x0 = 13 ∧ -2147483648 ≤ 24 * ((12 * x1) + x2) ∧ 24 * ((12 * x1) + x2) ≤ 2147483647 ∧ -2147483648 ≤ (24 * ((12 * x1) + x2)) + x3 ∧ (24 * ((12 * x1) + x2)) + x3 ≤ 2147483647 ∧ S2.1 (V2 x0 20) = 20 ∧ 0 ≤ ((24 * ((12 * x1) + x2)) + x3) ∧ ((24 * ((12 * x1) + x2)) + x3) < S2.2.1 (V2 x0 20) ∧ (x4 < 0 → Q (-1) S2 V2) ∧ (¬ (x4 < 0) → (((V2 (V2 x0 20) ((24 * ((12 * x1) + x2)) + x3)).tmod 16) ≤ x4 → Q (-1) S2 V2) ∧ (¬ (((V2 (V2 x0 20) ((24 * ((12 * x1) + x2)) + x3)).tmod 16) ≤ x4) → -2147483648 ≤ ((V2 (V2 x0 20) ((24 * ((12 * x1) + x2)) + x3)).tdiv 16) + x4 ∧ ((V2 (V2 x0 20) ((24 * ((12 * x1) + x2)) + x3)).tdiv 16) + x4 ≤ 2147483647 ∧ S2.1 (V2 x0 7) = 21 ∧ 0 ≤ (((V2 (V2 x0 20) ((24 * ((12 * x1) + x2)) + x3)).tdiv 16) + x4) ∧ (((V2 (V2 x0 20) ((24 * ((12 * x1) + x2)) + x3)).tdiv 16) + x4) < S2.2.1 (V2 x0 7) ∧ Q (V2 (V2 x0 7) (((V2 (V2 x0 20) ((24 * ((12 * x1) + x2)) + x3)).tdiv 16) + x4)) S2 V2))) ∧ (¬ (x3 ≠ (-1)) → S2.1 x0 = 13 ∧ S2.1 (V2 x0 13) = 20 ∧ 0 ≤ ((12 * x1) + x2) ∧ ((12 * x1) + x2) < S2.2.1 (V2 x0 13) ∧ (x4 < 0 → Q (-1) S2 V2) ∧ (¬ (x4 < 0) → (((V2 (V2 x0 13) ((12 * x1) + x2)).tmod 16) ≤ x4 → Q (-1) S2 V2) ∧ (¬ (((V2 (V2 x0 13) ((12 * x1) + x2)).tmod 16) ≤ x4) → -2147483648 ≤ ((V2 (V2 x0 13) ((12 * x1) + x2)).tdiv 16) + x4 ∧ ((V2 (V2 x0 13) ((12 * x1) + x2)).tdiv 16) + x4 ≤ 2147483647 ∧ S2.1 (V2 x0 7) = 21 ∧ 0 ≤ (((V2 (V2 x0 13) ((12 * x1) + x2)).tdiv 16) + x4) ∧ (((V2 (V2 x0 13) ((12 * x1) + x2)).tdiv 16) + x4) < S2.2.1 (V2 x0 7) ∧ Q (V2 (V2 x0 7) (((V2 (V2 x0 13) ((12 * x1) + x2)).tdiv 16) + x4)) S2 V2)))) ∧ (¬ (z2 ≠ 0) → Q (-1) S2 V2))) ∧ (¬ (x3 ≠ (-1)) → S.1 x0 = 13 ∧ CT l G bX12_isEnum d mc ms [vr x0, vi x1, vi x2] S V (fun z10 S10 V10 mc10 ms10 => (z10 = 0 → Q (-1) S10 V10) ∧ (¬ (z10 = 0) → -2147483648 ≤ 12 * x1 ∧ 12 * x1 ≤ 2147483647 ∧ -2147483648 ≤ (12 * x1) + x2 ∧ (12 * x1) + x2 ≤ 2147483647 ∧ (x3 ≠ (-1) → S10.1 x0 = 13 ∧ -2147483648 ≤ 24 * ((12 * x1) + x2) ∧ 24 * ((12 * x1) + x2) ≤ 2147483647 ∧ -2147483648 ≤ (24 * ((12 * x1) + x2)) + x3 ∧ (24 * ((12 * x1) + x2)) + x3 ≤ 2147483647 ∧ S10.1 (V10 x0 20) = 20 ∧ 0 ≤ ((24 * ((12 * x1) + x2)) + x3) ∧ ((24 * ((12 * x1) + x2)) + x3) < S10.2.1 (V10 x0 20) ∧ (x4 < 0 → Q (-1) S10 V10) ∧ (¬ (x4 < 0) → (((V10 (V10 x0 20) ((24 * ((12 * x1) + x2)) + x3)).tmod 16) ≤ x4 → Q (-1) S10 V10) ∧ (¬ (((V10 (V10 x0 20) ((24 * ((12 * x1) + x2)) + x3)).tmod 16) ≤ x4) → -2147483648 ≤ ((V10 (V10 x0 20) ((24 * ((12 * x1) + x2)) + x3)).tdiv 16) + x4 ∧ ((V10 (V10 x0 20) ((24 * ((12 * x1) + x2)) + x3)).tdiv 16) + x4 ≤ 2147483647 ∧ S10.1 (V10 x0 7) = 21 ∧ 0 ≤ (((V10 (V10 x0 20) ((24 * ((12 * x1) + x2)) + x3)).tdiv 16) + x4) ∧ (((V10 (V10 x0 20) ((24 * ((12 * x1) + x2)) + x3)).tdiv 16) + x4) < S10.2.1 (V10 x0 7) ∧ Q (V10 (V10 x0 7) (((V10 (V10 x0 20) ((24 * ((12 * x1) + x2)) + x3)).tdiv 16) + x4)) S10 V10))) ∧ (¬ (x3 ≠ (-1)) → S10.1 x0 = 13 ∧ S10.1 (V10 x0 13) = 20 ∧ 0 ≤ ((12 * x1) + x2) ∧ ((12 * x1) + x2) < S10.2.1 (V10 x0 13) ∧ (x4 < 0 → Q (-1) S10 V10) ∧ (¬ (x4 < 0) → (((V10 (V10 x0 13) ((12 * x1) + x2)).tmod 16) ≤ x4 → Q (-1) S10 V10) ∧ (¬ (((V10 (V10 x0 13) ((12 * x1) + x2)).tmod 16) ≤ x4) → -2147483648 ≤ ((V10 (V10 x0 13) ((12 * x1) + x2)).tdiv 16) + x4 ∧ ((V10 (V10 x0 13) ((12 * x1) + x2)).tdiv 16) + x4 ≤ 2147483647 ∧ S10.1 (V10 x0 7) = 21 ∧ 0 ≤ (((V10 (V10 x0 13) ((12 * x1) + x2)).tdiv 16) + x4) ∧ (((V10 (V10 x0 13) ((12 * x1) + x2)).tdiv 16) + x4) < S10.2.1 (V10 x0 7) ∧ Q (V10 (V10 x0 7) (((V10 (V10 x0 13) ((12 * x1) + x2)).tdiv 16) + x4)) S10 V10))))))) : XJ l G bX12_letter Q d 0 [vr x0, vi x1, vi x2, vi x3, vi x4, vu, vu] [] S V mc ms := by
  refine X_iload_n dX12_letter_0 rfl ?_
  refine X_iconst dX12_letter_1 (by decide) ?_
  refine X_icmp_ne dX12_letter_2 (tgt := 17) rfl (fun c1 => ?_) (fun c1 => ?_)
  · refine X_aload_n dX12_letter_17 rfl ?_
    refine X_iload_n dX12_letter_18 rfl ?_
    refine X_iload_n dX12_letter_19 rfl ?_
    refine X_iload_n dX12_letter_20 rfl ?_
    refine X_invV (ci := 12) (as := [vi x1, vi x2, vi x3]) (st := []) okX12_isConstant dX12_letter_21 km_RX12_451 rfl rfl (Nat.le_of_ble_eq_true rfl) rfl rfl (h.1 c1).1 (CT.imp (h.1 c1).2 (fun z2 S2 V2 mc2 ms2 hc3 => ?_))
    refine X_if_ne dX12_letter_24 (tgt := 29) rfl (fun c4 => ?_) (fun c4 => ?_)
    · refine X_bipush dX12_letter_29 (by decide) (by decide) ?_
      refine X_iload_n dX12_letter_31 rfl ?_
      refine X_imulN dX12_letter_32 (hc3.1 c4).1 (hc3.1 c4).2.1 ?_
      refine X_iload_n dX12_letter_33 rfl ?_
      refine X_iaddN dX12_letter_34 (hc3.1 c4).2.2.1 (hc3.1 c4).2.2.2.1 ?_
      refine X_istore dX12_letter_35 (by decide) rfl ?_
      refine X_iload_n dX12_letter_37 rfl ?_
      refine X_iconst dX12_letter_38 (by decide) ?_
      refine X_icmp_ne dX12_letter_39 (tgt := 52) rfl (fun c5 => ?_) (fun c5 => ?_)
      · refine X_aload_n dX12_letter_52 rfl ?_
        refine X_getfield (ci := 12) (k := 20) (v := vr (V2 x0 20)) dX12_letter_53 rfl (by decide) kf_RX12_47 rfl ((hc3.1 c4).2.2.2.2.1 c5).1 ?_
        refine X_bipush dX12_letter_56 (by decide) (by decide) ?_
        refine X_iload dX12_letter_58 rfl ?_
        refine X_imulN dX12_letter_60 ((hc3.1 c4).2.2.2.2.1 c5).2.1 ((hc3.1 c4).2.2.2.2.1 c5).2.2.1 ?_
        refine X_iload_n dX12_letter_61 rfl ?_
        refine X_iaddN dX12_letter_62 ((hc3.1 c4).2.2.2.2.1 c5).2.2.2.1 ((hc3.1 c4).2.2.2.2.1 c5).2.2.2.2.1 ?_
        refine X_iaload dX12_letter_63 ((hc3.1 c4).2.2.2.2.1 c5).2.2.2.2.2.1 ((hc3.1 c4).2.2.2.2.1 c5).2.2.2.2.2.2.1 ((hc3.1 c4).2.2.2.2.1 c5).2.2.2.2.2.2.2.1 ?_
        refine X_istore dX12_letter_64 (by decide) rfl ?_
        refine X_iload dX12_letter_66 rfl ?_
        refine X_if_lt dX12_letter_68 (tgt := 97) rfl (fun c6 => ?_) (fun c6 => ?_)
        · refine X_iconst dX12_letter_97 (by decide) ?_
          exact X_ret (z := (-1)) dX12_letter_98 rfl (fun hv => vok_h hv) (((hc3.1 c4).2.2.2.2.1 c5).2.2.2.2.2.2.2.2.1 c6)
        · refine X_iload dX12_letter_71 rfl ?_
          refine X_iload dX12_letter_73 rfl ?_
          refine X_bipush dX12_letter_75 (by decide) (by decide) ?_
          refine X_iremP dX12_letter_77 (by decide) ?_
          refine X_icmp_ge dX12_letter_78 (tgt := 97) rfl (fun c7 => ?_) (fun c7 => ?_)
          · refine X_iconst dX12_letter_97 (by decide) ?_
            exact X_ret (z := (-1)) dX12_letter_98 rfl (fun hv => vok_h hv) ((((hc3.1 c4).2.2.2.2.1 c5).2.2.2.2.2.2.2.2.2 c6).1 c7)
          · refine X_aload_n dX12_letter_81 rfl ?_
            refine X_getfield (ci := 12) (k := 7) (v := vr (V2 x0 7)) dX12_letter_82 rfl (by decide) kf_RX12_13 rfl ((hc3.1 c4).2.2.2.2.1 c5).1 ?_
            refine X_iload dX12_letter_85 rfl ?_
            refine X_bipush dX12_letter_87 (by decide) (by decide) ?_
            refine X_idivP dX12_letter_89 (by decide) ?_
            refine X_iload dX12_letter_90 rfl ?_
            refine X_iaddN dX12_letter_92 ((((hc3.1 c4).2.2.2.2.1 c5).2.2.2.2.2.2.2.2.2 c6).2 c7).1 ((((hc3.1 c4).2.2.2.2.1 c5).2.2.2.2.2.2.2.2.2 c6).2 c7).2.1 ?_
            refine X_baload dX12_letter_93 ((((hc3.1 c4).2.2.2.2.1 c5).2.2.2.2.2.2.2.2.2 c6).2 c7).2.2.1 ((((hc3.1 c4).2.2.2.2.1 c5).2.2.2.2.2.2.2.2.2 c6).2 c7).2.2.2.1 ((((hc3.1 c4).2.2.2.2.1 c5).2.2.2.2.2.2.2.2.2 c6).2 c7).2.2.2.2.1 ?_
            refine X_goto dX12_letter_94 (tgt := 98) rfl ?_
            exact X_ret (z := (V2 (V2 x0 7) (((V2 (V2 x0 20) ((24 * ((12 * x1) + x2)) + x3)).tdiv 16) + x4))) dX12_letter_98 rfl (fun hv => vok_h hv) ((((hc3.1 c4).2.2.2.2.1 c5).2.2.2.2.2.2.2.2.2 c6).2 c7).2.2.2.2.2
      · refine X_aload_n dX12_letter_42 rfl ?_
        refine X_getfield (ci := 12) (k := 13) (v := vr (V2 x0 13)) dX12_letter_43 rfl (by decide) kf_RX12_26 rfl ((hc3.1 c4).2.2.2.2.2 c5).1 ?_
        refine X_iload dX12_letter_46 rfl ?_
        refine X_iaload dX12_letter_48 ((hc3.1 c4).2.2.2.2.2 c5).2.1 ((hc3.1 c4).2.2.2.2.2 c5).2.2.1 ((hc3.1 c4).2.2.2.2.2 c5).2.2.2.1 ?_
        refine X_goto dX12_letter_49 (tgt := 64) rfl ?_
        refine X_istore dX12_letter_64 (by decide) rfl ?_
        refine X_iload dX12_letter_66 rfl ?_
        refine X_if_lt dX12_letter_68 (tgt := 97) rfl (fun c8 => ?_) (fun c8 => ?_)
        · refine X_iconst dX12_letter_97 (by decide) ?_
          exact X_ret (z := (-1)) dX12_letter_98 rfl (fun hv => vok_h hv) (((hc3.1 c4).2.2.2.2.2 c5).2.2.2.2.1 c8)
        · refine X_iload dX12_letter_71 rfl ?_
          refine X_iload dX12_letter_73 rfl ?_
          refine X_bipush dX12_letter_75 (by decide) (by decide) ?_
          refine X_iremP dX12_letter_77 (by decide) ?_
          refine X_icmp_ge dX12_letter_78 (tgt := 97) rfl (fun c9 => ?_) (fun c9 => ?_)
          · refine X_iconst dX12_letter_97 (by decide) ?_
            exact X_ret (z := (-1)) dX12_letter_98 rfl (fun hv => vok_h hv) ((((hc3.1 c4).2.2.2.2.2 c5).2.2.2.2.2 c8).1 c9)
          · refine X_aload_n dX12_letter_81 rfl ?_
            refine X_getfield (ci := 12) (k := 7) (v := vr (V2 x0 7)) dX12_letter_82 rfl (by decide) kf_RX12_13 rfl ((hc3.1 c4).2.2.2.2.2 c5).1 ?_
            refine X_iload dX12_letter_85 rfl ?_
            refine X_bipush dX12_letter_87 (by decide) (by decide) ?_
            refine X_idivP dX12_letter_89 (by decide) ?_
            refine X_iload dX12_letter_90 rfl ?_
            refine X_iaddN dX12_letter_92 ((((hc3.1 c4).2.2.2.2.2 c5).2.2.2.2.2 c8).2 c9).1 ((((hc3.1 c4).2.2.2.2.2 c5).2.2.2.2.2 c8).2 c9).2.1 ?_
            refine X_baload dX12_letter_93 ((((hc3.1 c4).2.2.2.2.2 c5).2.2.2.2.2 c8).2 c9).2.2.1 ((((hc3.1 c4).2.2.2.2.2 c5).2.2.2.2.2 c8).2 c9).2.2.2.1 ((((hc3.1 c4).2.2.2.2.2 c5).2.2.2.2.2 c8).2 c9).2.2.2.2.1 ?_
            refine X_goto dX12_letter_94 (tgt := 98) rfl ?_
            exact X_ret (z := (V2 (V2 x0 7) (((V2 (V2 x0 13) ((12 * x1) + x2)).tdiv 16) + x4))) dX12_letter_98 rfl (fun hv => vok_h hv) ((((hc3.1 c4).2.2.2.2.2 c5).2.2.2.2.2 c8).2 c9).2.2.2.2.2
    · refine X_iconst dX12_letter_27 (by decide) ?_
      exact X_ret (z := (-1)) dX12_letter_28 rfl (fun hv => vok_h hv) (hc3.2 c4)
  · refine X_aload_n dX12_letter_5 rfl ?_
    refine X_iload_n dX12_letter_6 rfl ?_
    refine X_iload_n dX12_letter_7 rfl ?_
    refine X_invV (ci := 12) (as := [vi x1, vi x2]) (st := []) okX12_isEnum dX12_letter_8 km_RX12_439 rfl rfl (Nat.le_of_ble_eq_true rfl) rfl rfl (h.2 c1).1 (CT.imp (h.2 c1).2 (fun z10 S10 V10 mc10 ms10 hc11 => ?_))
    refine X_if_eq dX12_letter_11 (tgt := 27) rfl (fun c12 => ?_) (fun c12 => ?_)
    · refine X_iconst dX12_letter_27 (by decide) ?_
      exact X_ret (z := (-1)) dX12_letter_28 rfl (fun hv => vok_h hv) (hc11.1 c12)
    · refine X_goto dX12_letter_14 (tgt := 29) rfl ?_
      refine X_bipush dX12_letter_29 (by decide) (by decide) ?_
      refine X_iload_n dX12_letter_31 rfl ?_
      refine X_imulN dX12_letter_32 (hc11.2 c12).1 (hc11.2 c12).2.1 ?_
      refine X_iload_n dX12_letter_33 rfl ?_
      refine X_iaddN dX12_letter_34 (hc11.2 c12).2.2.1 (hc11.2 c12).2.2.2.1 ?_
      refine X_istore dX12_letter_35 (by decide) rfl ?_
      refine X_iload_n dX12_letter_37 rfl ?_
      refine X_iconst dX12_letter_38 (by decide) ?_
      refine X_icmp_ne dX12_letter_39 (tgt := 52) rfl (fun c13 => ?_) (fun c13 => ?_)
      · refine X_aload_n dX12_letter_52 rfl ?_
        refine X_getfield (ci := 12) (k := 20) (v := vr (V10 x0 20)) dX12_letter_53 rfl (by decide) kf_RX12_47 rfl ((hc11.2 c12).2.2.2.2.1 c13).1 ?_
        refine X_bipush dX12_letter_56 (by decide) (by decide) ?_
        refine X_iload dX12_letter_58 rfl ?_
        refine X_imulN dX12_letter_60 ((hc11.2 c12).2.2.2.2.1 c13).2.1 ((hc11.2 c12).2.2.2.2.1 c13).2.2.1 ?_
        refine X_iload_n dX12_letter_61 rfl ?_
        refine X_iaddN dX12_letter_62 ((hc11.2 c12).2.2.2.2.1 c13).2.2.2.1 ((hc11.2 c12).2.2.2.2.1 c13).2.2.2.2.1 ?_
        refine X_iaload dX12_letter_63 ((hc11.2 c12).2.2.2.2.1 c13).2.2.2.2.2.1 ((hc11.2 c12).2.2.2.2.1 c13).2.2.2.2.2.2.1 ((hc11.2 c12).2.2.2.2.1 c13).2.2.2.2.2.2.2.1 ?_
        refine X_istore dX12_letter_64 (by decide) rfl ?_
        refine X_iload dX12_letter_66 rfl ?_
        refine X_if_lt dX12_letter_68 (tgt := 97) rfl (fun c14 => ?_) (fun c14 => ?_)
        · refine X_iconst dX12_letter_97 (by decide) ?_
          exact X_ret (z := (-1)) dX12_letter_98 rfl (fun hv => vok_h hv) (((hc11.2 c12).2.2.2.2.1 c13).2.2.2.2.2.2.2.2.1 c14)
        · refine X_iload dX12_letter_71 rfl ?_
          refine X_iload dX12_letter_73 rfl ?_
          refine X_bipush dX12_letter_75 (by decide) (by decide) ?_
          refine X_iremP dX12_letter_77 (by decide) ?_
          refine X_icmp_ge dX12_letter_78 (tgt := 97) rfl (fun c15 => ?_) (fun c15 => ?_)
          · refine X_iconst dX12_letter_97 (by decide) ?_
            exact X_ret (z := (-1)) dX12_letter_98 rfl (fun hv => vok_h hv) ((((hc11.2 c12).2.2.2.2.1 c13).2.2.2.2.2.2.2.2.2 c14).1 c15)
          · refine X_aload_n dX12_letter_81 rfl ?_
            refine X_getfield (ci := 12) (k := 7) (v := vr (V10 x0 7)) dX12_letter_82 rfl (by decide) kf_RX12_13 rfl ((hc11.2 c12).2.2.2.2.1 c13).1 ?_
            refine X_iload dX12_letter_85 rfl ?_
            refine X_bipush dX12_letter_87 (by decide) (by decide) ?_
            refine X_idivP dX12_letter_89 (by decide) ?_
            refine X_iload dX12_letter_90 rfl ?_
            refine X_iaddN dX12_letter_92 ((((hc11.2 c12).2.2.2.2.1 c13).2.2.2.2.2.2.2.2.2 c14).2 c15).1 ((((hc11.2 c12).2.2.2.2.1 c13).2.2.2.2.2.2.2.2.2 c14).2 c15).2.1 ?_
            refine X_baload dX12_letter_93 ((((hc11.2 c12).2.2.2.2.1 c13).2.2.2.2.2.2.2.2.2 c14).2 c15).2.2.1 ((((hc11.2 c12).2.2.2.2.1 c13).2.2.2.2.2.2.2.2.2 c14).2 c15).2.2.2.1 ((((hc11.2 c12).2.2.2.2.1 c13).2.2.2.2.2.2.2.2.2 c14).2 c15).2.2.2.2.1 ?_
            refine X_goto dX12_letter_94 (tgt := 98) rfl ?_
            exact X_ret (z := (V10 (V10 x0 7) (((V10 (V10 x0 20) ((24 * ((12 * x1) + x2)) + x3)).tdiv 16) + x4))) dX12_letter_98 rfl (fun hv => vok_h hv) ((((hc11.2 c12).2.2.2.2.1 c13).2.2.2.2.2.2.2.2.2 c14).2 c15).2.2.2.2.2
      · refine X_aload_n dX12_letter_42 rfl ?_
        refine X_getfield (ci := 12) (k := 13) (v := vr (V10 x0 13)) dX12_letter_43 rfl (by decide) kf_RX12_26 rfl ((hc11.2 c12).2.2.2.2.2 c13).1 ?_
        refine X_iload dX12_letter_46 rfl ?_
        refine X_iaload dX12_letter_48 ((hc11.2 c12).2.2.2.2.2 c13).2.1 ((hc11.2 c12).2.2.2.2.2 c13).2.2.1 ((hc11.2 c12).2.2.2.2.2 c13).2.2.2.1 ?_
        refine X_goto dX12_letter_49 (tgt := 64) rfl ?_
        refine X_istore dX12_letter_64 (by decide) rfl ?_
        refine X_iload dX12_letter_66 rfl ?_
        refine X_if_lt dX12_letter_68 (tgt := 97) rfl (fun c16 => ?_) (fun c16 => ?_)
        · refine X_iconst dX12_letter_97 (by decide) ?_
          exact X_ret (z := (-1)) dX12_letter_98 rfl (fun hv => vok_h hv) (((hc11.2 c12).2.2.2.2.2 c13).2.2.2.2.1 c16)
        · refine X_iload dX12_letter_71 rfl ?_
          refine X_iload dX12_letter_73 rfl ?_
          refine X_bipush dX12_letter_75 (by decide) (by decide) ?_
          refine X_iremP dX12_letter_77 (by decide) ?_
          refine X_icmp_ge dX12_letter_78 (tgt := 97) rfl (fun c17 => ?_) (fun c17 => ?_)
          · refine X_iconst dX12_letter_97 (by decide) ?_
            exact X_ret (z := (-1)) dX12_letter_98 rfl (fun hv => vok_h hv) ((((hc11.2 c12).2.2.2.2.2 c13).2.2.2.2.2 c16).1 c17)
          · refine X_aload_n dX12_letter_81 rfl ?_
            refine X_getfield (ci := 12) (k := 7) (v := vr (V10 x0 7)) dX12_letter_82 rfl (by decide) kf_RX12_13 rfl ((hc11.2 c12).2.2.2.2.2 c13).1 ?_
            refine X_iload dX12_letter_85 rfl ?_
            refine X_bipush dX12_letter_87 (by decide) (by decide) ?_
            refine X_idivP dX12_letter_89 (by decide) ?_
            refine X_iload dX12_letter_90 rfl ?_
            refine X_iaddN dX12_letter_92 ((((hc11.2 c12).2.2.2.2.2 c13).2.2.2.2.2 c16).2 c17).1 ((((hc11.2 c12).2.2.2.2.2 c13).2.2.2.2.2 c16).2 c17).2.1 ?_
            refine X_baload dX12_letter_93 ((((hc11.2 c12).2.2.2.2.2 c13).2.2.2.2.2 c16).2 c17).2.2.1 ((((hc11.2 c12).2.2.2.2.2 c13).2.2.2.2.2 c16).2 c17).2.2.2.1 ((((hc11.2 c12).2.2.2.2.2 c13).2.2.2.2.2 c16).2 c17).2.2.2.2.1 ?_
            refine X_goto dX12_letter_94 (tgt := 98) rfl ?_
            exact X_ret (z := (V10 (V10 x0 7) (((V10 (V10 x0 13) ((12 * x1) + x2)).tdiv 16) + x4))) dX12_letter_98 rfl (fun hv => vok_h hv) ((((hc11.2 c12).2.2.2.2.2 c13).2.2.2.2.2 c16).2 c17).2.2.2.2.2
theorem qX12_letter {l : Launch} {G : GT} {Q : Int → Sh → Mem → Prop} {d : Nat} {S : Sh} {V : Mem} {mc ms : Nat} {x0 x1 x2 x3 x4 : Int} (h : 0 ≤ x0 → inI x1 → inI x2 → inI x3 → inI x4 → XJ l G bX12_letter Q d 0 [vr x0, vi x1, vi x2, vi x3, vi x4, vu, vu] [] S V mc ms) : Ct l G bX12_letter Q d mc ms [vr x0, vi x1, vi x2, vi x3, vi x4] S V := Ct.of okX12_letter.1 trivial (Nat.le_of_ble_eq_true rfl) (fun hv => h (hv _ (List.mem_of_getElem? (i := 0) rfl)) (hv _ (List.mem_of_getElem? (i := 1) rfl)) (hv _ (List.mem_of_getElem? (i := 2) rfl)) (hv _ (List.mem_of_getElem? (i := 3) rfl)) (hv _ (List.mem_of_getElem? (i := 4) rfl)))
set_option maxRecDepth 10000 in
theorem vX12_body_0 {l : Launch} {G : GT} {Q : Int → Sh → Mem → Prop} {d : Nat} {S : Sh} {V : Mem} {mc ms : Nat} {x0 x1 x2 x3 x4 : Int} (h : (x3 ≠ (-1) → S.1 x0 = 13 ∧ CT l G bX12_isConstant d mc ms [vr x0, vi x1, vi x2, vi x3] S V (fun z2 S2 V2 mc2 ms2 => (z2 = 0 → Q (-1) S2 V2) ∧ (¬ (z2 = 0) → (x4 < 0 → Q (-1) S2 V2) ∧ (¬ (x4 < 0) → S2.1 x0 = 13 ∧ S2.1 (V2 x0 11) = 20 ∧ 0 ≤ x1 ∧ x1 < S2.2.1 (V2 x0 11) ∧ (x4 < (V2 (V2 x0 11) x1) → -2147483648 ≤ 12 * x1 ∧ 12 * x1 ≤ 2147483647 ∧ -2147483648 ≤ (12 * x1) + x2 ∧ (12 * x1) + x2 ≤ 2147483647 ∧ (x3 ≠ (-1) → -2147483648 ≤ 24 * ((12 * x1) + x2) ∧ 24 * ((12 * x1) + x2) ≤ 2147483647 ∧ -2147483648 ≤ (24 * ((12 * x1) + x2)) + x3 ∧ (24 * ((12 * x1) + x2)) + x3 ≤ 2147483647 ∧ -2147483648 ≤ 4 * ((24 * ((12 * x1) + x2)) + x3) ∧ 4 * ((24 * ((12 * x1) + x2)) + x3) ≤ 2147483647 ∧ -2147483648 ≤ (4 * ((24 * ((12 * x1) + x2)) + x3)) + x4 ∧ (4 * ((24 * ((12 * x1) + x2)) + x3)) + x4 ≤ 2147483647 ∧ S2.1 (V2 x0 22) = 20 ∧ 0 ≤ ((4 * ((24 * ((12 * x1) + x2)) + x3)) + x4) ∧ ((4 * ((24 * ((12 * x1) + x2)) + x3)) + x4) < S2.2.1 (V2 x0 22) ∧ ((V2 (V2 x0 22) ((4 * ((24 * ((12 * x1) + x2)) + x3)) + x4)) = (-1) → Q 0 S2 V2) ∧ (¬ ((V2 (V2 x0 22) ((4 * ((24 * ((12 * x1) + x2)) + x3)) + x4)) = (-1)) → Q 1 S2 V2)) ∧ (¬ (x3 ≠ (-1)) → -2147483648 ≤ 4 * ((12 * x1) + x2) ∧ 4 * ((12 * x1) + x2) ≤ 2147483647 ∧ -2147483648 ≤ (4 * ((12 * x1) + x2)) + x4 ∧ (4 * ((12 * x1) + x2)) + x4 ≤ 2147483647 ∧ S2.1 (V2 x0 19) = 20 ∧ 0 ≤ ((4 * ((12 * x1) + x2)) + x4) ∧ ((4 * ((12 * x1) + x2)) + x4) < S2.2.1 (V2 x0 19) ∧ ((V2 (V2 x0 19) ((4 * ((12 * x1) + x2)) + x4)) = (-1) → Q 0 S2 V2) ∧ (¬ ((V2 (V2 x0 19) ((4 * ((12 * x1) + x2)) + x4)) = (-1)) → Q 1 S2 V2))) ∧ (¬ (x4 < (V2 (V2 x0 11) x1)) → Q (-1) S2 V2))))) ∧ (¬ (x3 ≠ (-1)) → S.1 x0 = 13 ∧ CT l G bX12_isEnum d mc ms [vr x0, vi x1, vi x2] S V (fun z10 S10 V10 mc10 ms10 => (z10 = 0 → Q (-1) S10 V10) ∧ (¬ (z10 = 0) → (x4 < 0 → Q (-1) S10 V10) ∧ (¬ (x4 < 0) → S10.1 x0 = 13 ∧ S10.1 (V10 x0 11) = 20 ∧ 0 ≤ x1 ∧ x1 < S10.2.1 (V10 x0 11) ∧ (x4 < (V10 (V10 x0 11) x1) → -2147483648 ≤ 12 * x1 ∧ 12 * x1 ≤ 2147483647 ∧ -2147483648 ≤ (12 * x1) + x2 ∧ (12 * x1) + x2 ≤ 2147483647 ∧ (x3 ≠ (-1) → -2147483648 ≤ 24 * ((12 * x1) + x2) ∧ 24 * ((12 * x1) + x2) ≤ 2147483647 ∧ -2147483648 ≤ (24 * ((12 * x1) + x2)) + x3 ∧ (24 * ((12 * x1) + x2)) + x3 ≤ 2147483647 ∧ -2147483648 ≤ 4 * ((24 * ((12 * x1) + x2)) + x3) ∧ 4 * ((24 * ((12 * x1) + x2)) + x3) ≤ 2147483647 ∧ -2147483648 ≤ (4 * ((24 * ((12 * x1) + x2)) + x3)) + x4 ∧ (4 * ((24 * ((12 * x1) + x2)) + x3)) + x4 ≤ 2147483647 ∧ S10.1 (V10 x0 22) = 20 ∧ 0 ≤ ((4 * ((24 * ((12 * x1) + x2)) + x3)) + x4) ∧ ((4 * ((24 * ((12 * x1) + x2)) + x3)) + x4) < S10.2.1 (V10 x0 22) ∧ ((V10 (V10 x0 22) ((4 * ((24 * ((12 * x1) + x2)) + x3)) + x4)) = (-1) → Q 0 S10 V10) ∧ (¬ ((V10 (V10 x0 22) ((4 * ((24 * ((12 * x1) + x2)) + x3)) + x4)) = (-1)) → Q 1 S10 V10)) ∧ (¬ (x3 ≠ (-1)) → -2147483648 ≤ 4 * ((12 * x1) + x2) ∧ 4 * ((12 * x1) + x2) ≤ 2147483647 ∧ -2147483648 ≤ (4 * ((12 * x1) + x2)) + x4 ∧ (4 * ((12 * x1) + x2)) + x4 ≤ 2147483647 ∧ S10.1 (V10 x0 19) = 20 ∧ 0 ≤ ((4 * ((12 * x1) + x2)) + x4) ∧ ((4 * ((12 * x1) + x2)) + x4) < S10.2.1 (V10 x0 19) ∧ ((V10 (V10 x0 19) ((4 * ((12 * x1) + x2)) + x4)) = (-1) → Q 0 S10 V10) ∧ (¬ ((V10 (V10 x0 19) ((4 * ((12 * x1) + x2)) + x4)) = (-1)) → Q 1 S10 V10))) ∧ (¬ (x4 < (V10 (V10 x0 11) x1)) → Q (-1) S10 V10)))))) : XJ l G bX12_body Q d 0 [vr x0, vi x1, vi x2, vi x3, vi x4, vu] [] S V mc ms := by
  refine X_iload_n dX12_body_0 rfl ?_
  refine X_iconst dX12_body_1 (by decide) ?_
  refine X_icmp_ne dX12_body_2 (tgt := 17) rfl (fun c1 => ?_) (fun c1 => ?_)
  · refine X_aload_n dX12_body_17 rfl ?_
    refine X_iload_n dX12_body_18 rfl ?_
    refine X_iload_n dX12_body_19 rfl ?_
    refine X_iload_n dX12_body_20 rfl ?_
    refine X_invV (ci := 12) (as := [vi x1, vi x2, vi x3]) (st := []) okX12_isConstant dX12_body_21 km_RX12_451 rfl rfl (Nat.le_of_ble_eq_true rfl) rfl rfl (h.1 c1).1 (CT.imp (h.1 c1).2 (fun z2 S2 V2 mc2 ms2 hc3 => ?_))
    refine X_if_eq dX12_body_24 (tgt := 43) rfl (fun c4 => ?_) (fun c4 => ?_)
    · refine X_iconst dX12_body_43 (by decide) ?_
      exact X_ret (z := (-1)) dX12_body_44 rfl (fun hv => vok_h hv) (hc3.1 c4)
    · refine X_iload dX12_body_27 rfl ?_
      refine X_if_lt dX12_body_29 (tgt := 43) rfl (fun c5 => ?_) (fun c5 => ?_)
      · refine X_iconst dX12_body_43 (by decide) ?_
        exact X_ret (z := (-1)) dX12_body_44 rfl (fun hv => vok_h hv) ((hc3.2 c4).1 c5)
      · refine X_iload dX12_body_32 rfl ?_
        refine X_aload_n dX12_body_34 rfl ?_
        refine X_getfield (ci := 12) (k := 11) (v := vr (V2 x0 11)) dX12_body_35 rfl (by decide) kf_RX12_20 rfl ((hc3.2 c4).2 c5).1 ?_
        refine X_iload_n dX12_body_38 rfl ?_
        refine X_iaload dX12_body_39 ((hc3.2 c4).2 c5).2.1 ((hc3.2 c4).2 c5).2.2.1 ((hc3.2 c4).2 c5).2.2.2.1 ?_
        refine X_icmp_lt dX12_body_40 (tgt := 45) rfl (fun c6 => ?_) (fun c6 => ?_)
        · refine X_bipush dX12_body_45 (by decide) (by decide) ?_
          refine X_iload_n dX12_body_47 rfl ?_
          refine X_imulN dX12_body_48 (((hc3.2 c4).2 c5).2.2.2.2.1 c6).1 (((hc3.2 c4).2 c5).2.2.2.2.1 c6).2.1 ?_
          refine X_iload_n dX12_body_49 rfl ?_
          refine X_iaddN dX12_body_50 (((hc3.2 c4).2 c5).2.2.2.2.1 c6).2.2.1 (((hc3.2 c4).2 c5).2.2.2.2.1 c6).2.2.2.1 ?_
          refine X_istore dX12_body_51 (by decide) rfl ?_
          refine X_iload_n dX12_body_53 rfl ?_
          refine X_iconst dX12_body_54 (by decide) ?_
          refine X_icmp_ne dX12_body_55 (tgt := 73) rfl (fun c7 => ?_) (fun c7 => ?_)
          · refine X_aload_n dX12_body_73 rfl ?_
            refine X_getfield (ci := 12) (k := 22) (v := vr (V2 x0 22)) dX12_body_74 rfl (by decide) kf_RX12_53 rfl ((hc3.2 c4).2 c5).1 ?_
            refine X_iconst dX12_body_77 (by decide) ?_
            refine X_bipush dX12_body_78 (by decide) (by decide) ?_
            refine X_iload dX12_body_80 rfl ?_
            refine X_imulN dX12_body_82 ((((hc3.2 c4).2 c5).2.2.2.2.1 c6).2.2.2.2.1 c7).1 ((((hc3.2 c4).2 c5).2.2.2.2.1 c6).2.2.2.2.1 c7).2.1 ?_
            refine X_iload_n dX12_body_83 rfl ?_
            refine X_iaddN dX12_body_84 ((((hc3.2 c4).2 c5).2.2.2.2.1 c6).2.2.2.2.1 c7).2.2.1 ((((hc3.2 c4).2 c5).2.2.2.2.1 c6).2.2.2.2.1 c7).2.2.2.1 ?_
            refine X_imulN dX12_body_85 ((((hc3.2 c4).2 c5).2.2.2.2.1 c6).2.2.2.2.1 c7).2.2.2.2.1 ((((hc3.2 c4).2 c5).2.2.2.2.1 c6).2.2.2.2.1 c7).2.2.2.2.2.1 ?_
            refine X_iload dX12_body_86 rfl ?_
            refine X_iaddN dX12_body_88 ((((hc3.2 c4).2 c5).2.2.2.2.1 c6).2.2.2.2.1 c7).2.2.2.2.2.2.1 ((((hc3.2 c4).2 c5).2.2.2.2.1 c6).2.2.2.2.1 c7).2.2.2.2.2.2.2.1 ?_
            refine X_iaload dX12_body_89 ((((hc3.2 c4).2 c5).2.2.2.2.1 c6).2.2.2.2.1 c7).2.2.2.2.2.2.2.2.1 ((((hc3.2 c4).2 c5).2.2.2.2.1 c6).2.2.2.2.1 c7).2.2.2.2.2.2.2.2.2.1 ((((hc3.2 c4).2 c5).2.2.2.2.1 c6).2.2.2.2.1 c7).2.2.2.2.2.2.2.2.2.2.1 ?_
            refine X_iconst dX12_body_90 (by decide) ?_
            refine X_icmp_eq dX12_body_91 (tgt := 98) rfl (fun c8 => ?_) (fun c8 => ?_)
            · refine X_iconst dX12_body_98 (by decide) ?_
              exact X_ret (z := 0) dX12_body_99 rfl (fun hv => vok_h hv) (((((hc3.2 c4).2 c5).2.2.2.2.1 c6).2.2.2.2.1 c7).2.2.2.2.2.2.2.2.2.2.2.1 c8)
            · refine X_iconst dX12_body_94 (by decide) ?_
              refine X_goto dX12_body_95 (tgt := 99) rfl ?_
              exact X_ret (z := 1) dX12_body_99 rfl (fun hv => vok_h hv) (((((hc3.2 c4).2 c5).2.2.2.2.1 c6).2.2.2.2.1 c7).2.2.2.2.2.2.2.2.2.2.2.2 c8)
          · refine X_aload_n dX12_body_58 rfl ?_
            refine X_getfield (ci := 12) (k := 19) (v := vr (V2 x0 19)) dX12_body_59 rfl (by decide) kf_RX12_44 rfl ((hc3.2 c4).2 c5).1 ?_
            refine X_iconst dX12_body_62 (by decide) ?_
            refine X_iload dX12_body_63 rfl ?_
            refine X_imulN dX12_body_65 ((((hc3.2 c4).2 c5).2.2.2.2.1 c6).2.2.2.2.2 c7).1 ((((hc3.2 c4).2 c5).2.2.2.2.1 c6).2.2.2.2.2 c7).2.1 ?_
            refine X_iload dX12_body_66 rfl ?_
            refine X_iaddN dX12_body_68 ((((hc3.2 c4).2 c5).2.2.2.2.1 c6).2.2.2.2.2 c7).2.2.1 ((((hc3.2 c4).2 c5).2.2.2.2.1 c6).2.2.2.2.2 c7).2.2.2.1 ?_
            refine X_iaload dX12_body_69 ((((hc3.2 c4).2 c5).2.2.2.2.1 c6).2.2.2.2.2 c7).2.2.2.2.1 ((((hc3.2 c4).2 c5).2.2.2.2.1 c6).2.2.2.2.2 c7).2.2.2.2.2.1 ((((hc3.2 c4).2 c5).2.2.2.2.1 c6).2.2.2.2.2 c7).2.2.2.2.2.2.1 ?_
            refine X_goto dX12_body_70 (tgt := 90) rfl ?_
            refine X_iconst dX12_body_90 (by decide) ?_
            refine X_icmp_eq dX12_body_91 (tgt := 98) rfl (fun c9 => ?_) (fun c9 => ?_)
            · refine X_iconst dX12_body_98 (by decide) ?_
              exact X_ret (z := 0) dX12_body_99 rfl (fun hv => vok_h hv) (((((hc3.2 c4).2 c5).2.2.2.2.1 c6).2.2.2.2.2 c7).2.2.2.2.2.2.2.1 c9)
            · refine X_iconst dX12_body_94 (by decide) ?_
              refine X_goto dX12_body_95 (tgt := 99) rfl ?_
              exact X_ret (z := 1) dX12_body_99 rfl (fun hv => vok_h hv) (((((hc3.2 c4).2 c5).2.2.2.2.1 c6).2.2.2.2.2 c7).2.2.2.2.2.2.2.2 c9)
        · refine X_iconst dX12_body_43 (by decide) ?_
          exact X_ret (z := (-1)) dX12_body_44 rfl (fun hv => vok_h hv) (((hc3.2 c4).2 c5).2.2.2.2.2 c6)
  · refine X_aload_n dX12_body_5 rfl ?_
    refine X_iload_n dX12_body_6 rfl ?_
    refine X_iload_n dX12_body_7 rfl ?_
    refine X_invV (ci := 12) (as := [vi x1, vi x2]) (st := []) okX12_isEnum dX12_body_8 km_RX12_439 rfl rfl (Nat.le_of_ble_eq_true rfl) rfl rfl (h.2 c1).1 (CT.imp (h.2 c1).2 (fun z10 S10 V10 mc10 ms10 hc11 => ?_))
    refine X_if_eq dX12_body_11 (tgt := 43) rfl (fun c12 => ?_) (fun c12 => ?_)
    · refine X_iconst dX12_body_43 (by decide) ?_
      exact X_ret (z := (-1)) dX12_body_44 rfl (fun hv => vok_h hv) (hc11.1 c12)
    · refine X_goto dX12_body_14 (tgt := 27) rfl ?_
      refine X_iload dX12_body_27 rfl ?_
      refine X_if_lt dX12_body_29 (tgt := 43) rfl (fun c13 => ?_) (fun c13 => ?_)
      · refine X_iconst dX12_body_43 (by decide) ?_
        exact X_ret (z := (-1)) dX12_body_44 rfl (fun hv => vok_h hv) ((hc11.2 c12).1 c13)
      · refine X_iload dX12_body_32 rfl ?_
        refine X_aload_n dX12_body_34 rfl ?_
        refine X_getfield (ci := 12) (k := 11) (v := vr (V10 x0 11)) dX12_body_35 rfl (by decide) kf_RX12_20 rfl ((hc11.2 c12).2 c13).1 ?_
        refine X_iload_n dX12_body_38 rfl ?_
        refine X_iaload dX12_body_39 ((hc11.2 c12).2 c13).2.1 ((hc11.2 c12).2 c13).2.2.1 ((hc11.2 c12).2 c13).2.2.2.1 ?_
        refine X_icmp_lt dX12_body_40 (tgt := 45) rfl (fun c14 => ?_) (fun c14 => ?_)
        · refine X_bipush dX12_body_45 (by decide) (by decide) ?_
          refine X_iload_n dX12_body_47 rfl ?_
          refine X_imulN dX12_body_48 (((hc11.2 c12).2 c13).2.2.2.2.1 c14).1 (((hc11.2 c12).2 c13).2.2.2.2.1 c14).2.1 ?_
          refine X_iload_n dX12_body_49 rfl ?_
          refine X_iaddN dX12_body_50 (((hc11.2 c12).2 c13).2.2.2.2.1 c14).2.2.1 (((hc11.2 c12).2 c13).2.2.2.2.1 c14).2.2.2.1 ?_
          refine X_istore dX12_body_51 (by decide) rfl ?_
          refine X_iload_n dX12_body_53 rfl ?_
          refine X_iconst dX12_body_54 (by decide) ?_
          refine X_icmp_ne dX12_body_55 (tgt := 73) rfl (fun c15 => ?_) (fun c15 => ?_)
          · refine X_aload_n dX12_body_73 rfl ?_
            refine X_getfield (ci := 12) (k := 22) (v := vr (V10 x0 22)) dX12_body_74 rfl (by decide) kf_RX12_53 rfl ((hc11.2 c12).2 c13).1 ?_
            refine X_iconst dX12_body_77 (by decide) ?_
            refine X_bipush dX12_body_78 (by decide) (by decide) ?_
            refine X_iload dX12_body_80 rfl ?_
            refine X_imulN dX12_body_82 ((((hc11.2 c12).2 c13).2.2.2.2.1 c14).2.2.2.2.1 c15).1 ((((hc11.2 c12).2 c13).2.2.2.2.1 c14).2.2.2.2.1 c15).2.1 ?_
            refine X_iload_n dX12_body_83 rfl ?_
            refine X_iaddN dX12_body_84 ((((hc11.2 c12).2 c13).2.2.2.2.1 c14).2.2.2.2.1 c15).2.2.1 ((((hc11.2 c12).2 c13).2.2.2.2.1 c14).2.2.2.2.1 c15).2.2.2.1 ?_
            refine X_imulN dX12_body_85 ((((hc11.2 c12).2 c13).2.2.2.2.1 c14).2.2.2.2.1 c15).2.2.2.2.1 ((((hc11.2 c12).2 c13).2.2.2.2.1 c14).2.2.2.2.1 c15).2.2.2.2.2.1 ?_
            refine X_iload dX12_body_86 rfl ?_
            refine X_iaddN dX12_body_88 ((((hc11.2 c12).2 c13).2.2.2.2.1 c14).2.2.2.2.1 c15).2.2.2.2.2.2.1 ((((hc11.2 c12).2 c13).2.2.2.2.1 c14).2.2.2.2.1 c15).2.2.2.2.2.2.2.1 ?_
            refine X_iaload dX12_body_89 ((((hc11.2 c12).2 c13).2.2.2.2.1 c14).2.2.2.2.1 c15).2.2.2.2.2.2.2.2.1 ((((hc11.2 c12).2 c13).2.2.2.2.1 c14).2.2.2.2.1 c15).2.2.2.2.2.2.2.2.2.1 ((((hc11.2 c12).2 c13).2.2.2.2.1 c14).2.2.2.2.1 c15).2.2.2.2.2.2.2.2.2.2.1 ?_
            refine X_iconst dX12_body_90 (by decide) ?_
            refine X_icmp_eq dX12_body_91 (tgt := 98) rfl (fun c16 => ?_) (fun c16 => ?_)
            · refine X_iconst dX12_body_98 (by decide) ?_
              exact X_ret (z := 0) dX12_body_99 rfl (fun hv => vok_h hv) (((((hc11.2 c12).2 c13).2.2.2.2.1 c14).2.2.2.2.1 c15).2.2.2.2.2.2.2.2.2.2.2.1 c16)
            · refine X_iconst dX12_body_94 (by decide) ?_
              refine X_goto dX12_body_95 (tgt := 99) rfl ?_
              exact X_ret (z := 1) dX12_body_99 rfl (fun hv => vok_h hv) (((((hc11.2 c12).2 c13).2.2.2.2.1 c14).2.2.2.2.1 c15).2.2.2.2.2.2.2.2.2.2.2.2 c16)
          · refine X_aload_n dX12_body_58 rfl ?_
            refine X_getfield (ci := 12) (k := 19) (v := vr (V10 x0 19)) dX12_body_59 rfl (by decide) kf_RX12_44 rfl ((hc11.2 c12).2 c13).1 ?_
            refine X_iconst dX12_body_62 (by decide) ?_
            refine X_iload dX12_body_63 rfl ?_
            refine X_imulN dX12_body_65 ((((hc11.2 c12).2 c13).2.2.2.2.1 c14).2.2.2.2.2 c15).1 ((((hc11.2 c12).2 c13).2.2.2.2.1 c14).2.2.2.2.2 c15).2.1 ?_
            refine X_iload dX12_body_66 rfl ?_
            refine X_iaddN dX12_body_68 ((((hc11.2 c12).2 c13).2.2.2.2.1 c14).2.2.2.2.2 c15).2.2.1 ((((hc11.2 c12).2 c13).2.2.2.2.1 c14).2.2.2.2.2 c15).2.2.2.1 ?_
            refine X_iaload dX12_body_69 ((((hc11.2 c12).2 c13).2.2.2.2.1 c14).2.2.2.2.2 c15).2.2.2.2.1 ((((hc11.2 c12).2 c13).2.2.2.2.1 c14).2.2.2.2.2 c15).2.2.2.2.2.1 ((((hc11.2 c12).2 c13).2.2.2.2.1 c14).2.2.2.2.2 c15).2.2.2.2.2.2.1 ?_
            refine X_goto dX12_body_70 (tgt := 90) rfl ?_
            refine X_iconst dX12_body_90 (by decide) ?_
            refine X_icmp_eq dX12_body_91 (tgt := 98) rfl (fun c17 => ?_) (fun c17 => ?_)
            · refine X_iconst dX12_body_98 (by decide) ?_
              exact X_ret (z := 0) dX12_body_99 rfl (fun hv => vok_h hv) (((((hc11.2 c12).2 c13).2.2.2.2.1 c14).2.2.2.2.2 c15).2.2.2.2.2.2.2.1 c17)
            · refine X_iconst dX12_body_94 (by decide) ?_
              refine X_goto dX12_body_95 (tgt := 99) rfl ?_
              exact X_ret (z := 1) dX12_body_99 rfl (fun hv => vok_h hv) (((((hc11.2 c12).2 c13).2.2.2.2.1 c14).2.2.2.2.2 c15).2.2.2.2.2.2.2.2 c17)
        · refine X_iconst dX12_body_43 (by decide) ?_
          exact X_ret (z := (-1)) dX12_body_44 rfl (fun hv => vok_h hv) (((hc11.2 c12).2 c13).2.2.2.2.2 c14)
theorem qX12_body {l : Launch} {G : GT} {Q : Int → Sh → Mem → Prop} {d : Nat} {S : Sh} {V : Mem} {mc ms : Nat} {x0 x1 x2 x3 x4 : Int} (h : 0 ≤ x0 → inI x1 → inI x2 → inI x3 → inI x4 → XJ l G bX12_body Q d 0 [vr x0, vi x1, vi x2, vi x3, vi x4, vu] [] S V mc ms) : Ct l G bX12_body Q d mc ms [vr x0, vi x1, vi x2, vi x3, vi x4] S V := Ct.of okX12_body.1 trivial (Nat.le_of_ble_eq_true rfl) (fun hv => h (hv _ (List.mem_of_getElem? (i := 0) rfl)) (hv _ (List.mem_of_getElem? (i := 1) rfl)) (hv _ (List.mem_of_getElem? (i := 2) rfl)) (hv _ (List.mem_of_getElem? (i := 3) rfl)) (hv _ (List.mem_of_getElem? (i := 4) rfl)))
set_option maxRecDepth 10000 in
theorem vX12_use__0 {l : Launch} {G : GT} {Q : Int → Sh → Mem → Prop} {d : Nat} {S : Sh} {V : Mem} {mc ms : Nat} {x0 x1 x2 : Int} (h : S.1 x0 = 13 ∧ CT l G bX12_isEnum d mc ms [vr x0, vi x1, vi x2] S V (fun z1 S1 V1 mc1 ms1 => (z1 = 0 → Q (-1) S1 V1) ∧ (¬ (z1 = 0) → S1.1 x0 = 13 ∧ CT l G bX12_uses d mc1 ms1 [vr x0, vi x1, vi x2] S1 V1 (fun z4 S4 V4 mc4 ms4 => Q z4 S4 V4)))) : XJ l G bX12_use_ Q d 0 [vr x0, vi x1, vi x2] [] S V mc ms := by
  refine X_aload_n dX12_use__0 rfl ?_
  refine X_iload_n dX12_use__1 rfl ?_
  refine X_iload_n dX12_use__2 rfl ?_
  refine X_invV (ci := 12) (as := [vi x1, vi x2]) (st := []) okX12_isEnum dX12_use__3 km_RX12_439 rfl rfl (Nat.le_of_ble_eq_true rfl) rfl rfl h.1 (CT.imp h.2 (fun z1 S1 V1 mc1 ms1 hc2 => ?_))
  refine X_if_eq dX12_use__6 (tgt := 18) rfl (fun c3 => ?_) (fun c3 => ?_)
  · refine X_iconst dX12_use__18 (by decide) ?_
    exact X_ret (z := (-1)) dX12_use__19 rfl (fun hv => vok_h hv) (hc2.1 c3)
  · refine X_aload_n dX12_use__9 rfl ?_
    refine X_iload_n dX12_use__10 rfl ?_
    refine X_iload_n dX12_use__11 rfl ?_
    refine X_invV (ci := 12) (as := [vi x1, vi x2]) (st := []) okX12_uses dX12_use__12 km_RX12_455 rfl rfl (Nat.le_of_ble_eq_true rfl) rfl rfl (hc2.2 c3).1 (CT.imp (hc2.2 c3).2 (fun z4 S4 V4 mc4 ms4 hc5 => ?_))
    refine X_goto dX12_use__15 (tgt := 19) rfl ?_
    exact X_ret (z := z4) dX12_use__19 rfl (fun hv => vok_h hv) hc5
theorem qX12_use_ {l : Launch} {G : GT} {Q : Int → Sh → Mem → Prop} {d : Nat} {S : Sh} {V : Mem} {mc ms : Nat} {x0 x1 x2 : Int} (h : 0 ≤ x0 → inI x1 → inI x2 → XJ l G bX12_use_ Q d 0 [vr x0, vi x1, vi x2] [] S V mc ms) : Ct l G bX12_use_ Q d mc ms [vr x0, vi x1, vi x2] S V := Ct.of okX12_use_.1 trivial (Nat.le_of_ble_eq_true rfl) (fun hv => h (hv _ (List.mem_of_getElem? (i := 0) rfl)) (hv _ (List.mem_of_getElem? (i := 1) rfl)) (hv _ (List.mem_of_getElem? (i := 2) rfl)))
set_option maxRecDepth 10000 in
theorem vX12_argument_0 {l : Launch} {G : GT} {Q : Int → Sh → Mem → Prop} {d : Nat} {S : Sh} {V : Mem} {mc ms : Nat} {x0 x1 x2 x3 : Int} (h : S.1 x0 = 13 ∧ CT l G bX12_isConstant d mc ms [vr x0, vi x1, vi x2, vi x3] S V (fun z1 S1 V1 mc1 ms1 => (z1 ≠ 0 → S1.1 x0 = 13 ∧ CT l G bX12_uses d mc1 ms1 [vr x0, vi x1, vi x2] S1 V1 (fun z4 S4 V4 mc4 ms4 => S4.1 x0 = 13 ∧ -2147483648 ≤ 12 * x1 ∧ 12 * x1 ≤ 2147483647 ∧ -2147483648 ≤ (12 * x1) + x2 ∧ (12 * x1) + x2 ≤ 2147483647 ∧ -2147483648 ≤ 24 * ((12 * x1) + x2) ∧ 24 * ((12 * x1) + x2) ≤ 2147483647 ∧ -2147483648 ≤ (24 * ((12 * x1) + x2)) + x3 ∧ (24 * ((12 * x1) + x2)) + x3 ≤ 2147483647 ∧ S4.1 (V4 x0 54) = 20 ∧ 0 ≤ ((24 * ((12 * x1) + x2)) + x3) ∧ ((24 * ((12 * x1) + x2)) + x3) < S4.2.1 (V4 x0 54) ∧ CT l G bX12_ends d mc4 ms4 [vr x0, vi (V4 (V4 x0 54) ((24 * ((12 * x1) + x2)) + x3))] S4 V4 (fun z6 S6 V6 mc6 ms6 => Q z6 S6 V6))) ∧ (¬ (z1 ≠ 0) → Q (-1) S1 V1))) : XJ l G bX12_argument Q d 0 [vr x0, vi x1, vi x2, vi x3, vu] [] S V mc ms := by
  refine X_aload_n dX12_argument_0 rfl ?_
  refine X_iload_n dX12_argument_1 rfl ?_
  refine X_iload_n dX12_argument_2 rfl ?_
  refine X_iload_n dX12_argument_3 rfl ?_
  refine X_invV (ci := 12) (as := [vi x1, vi x2, vi x3]) (st := []) okX12_isConstant dX12_argument_4 km_RX12_451 rfl rfl (Nat.le_of_ble_eq_true rfl) rfl rfl h.1 (CT.imp h.2 (fun z1 S1 V1 mc1 ms1 hc2 => ?_))
  refine X_if_ne dX12_argument_7 (tgt := 12) rfl (fun c3 => ?_) (fun c3 => ?_)
  · refine X_aload_n dX12_argument_12 rfl ?_
    refine X_iload_n dX12_argument_13 rfl ?_
    refine X_iload_n dX12_argument_14 rfl ?_
    refine X_invV (ci := 12) (as := [vi x1, vi x2]) (st := []) okX12_uses dX12_argument_15 km_RX12_455 rfl rfl (Nat.le_of_ble_eq_true rfl) rfl rfl (hc2.1 c3).1 (CT.imp (hc2.1 c3).2 (fun z4 S4 V4 mc4 ms4 hc5 => ?_))
    refine X_istore dX12_argument_18 (by decide) rfl ?_
    refine X_aload_n dX12_argument_20 rfl ?_
    refine X_aload_n dX12_argument_21 rfl ?_
    refine X_getfield (ci := 12) (k := 54) (v := vr (V4 x0 54)) dX12_argument_22 rfl (by decide) kf_RX12_122 rfl hc5.1 ?_
    refine X_bipush dX12_argument_25 (by decide) (by decide) ?_
    refine X_bipush dX12_argument_27 (by decide) (by decide) ?_
    refine X_iload_n dX12_argument_29 rfl ?_
    refine X_imulN dX12_argument_30 hc5.2.1 hc5.2.2.1 ?_
    refine X_iload_n dX12_argument_31 rfl ?_
    refine X_iaddN dX12_argument_32 hc5.2.2.2.1 hc5.2.2.2.2.1 ?_
    refine X_imulN dX12_argument_33 hc5.2.2.2.2.2.1 hc5.2.2.2.2.2.2.1 ?_
    refine X_iload_n dX12_argument_34 rfl ?_
    refine X_iaddN dX12_argument_35 hc5.2.2.2.2.2.2.2.1 hc5.2.2.2.2.2.2.2.2.1 ?_
    refine X_iaload dX12_argument_36 hc5.2.2.2.2.2.2.2.2.2.1 hc5.2.2.2.2.2.2.2.2.2.2.1 hc5.2.2.2.2.2.2.2.2.2.2.2.1 ?_
    refine X_invV (ci := 12) (as := [vi (V4 (V4 x0 54) ((24 * ((12 * x1) + x2)) + x3))]) (st := []) okX12_ends dX12_argument_37 km_RX12_458 rfl rfl (Nat.le_of_ble_eq_true rfl) rfl rfl hc5.1 (CT.imp hc5.2.2.2.2.2.2.2.2.2.2.2.2 (fun z6 S6 V6 mc6 ms6 hc7 => ?_))
    exact X_ret (z := z6) dX12_argument_40 rfl (fun hv => vok_h hv) hc7
  · refine X_iconst dX12_argument_10 (by decide) ?_
    exact X_ret (z := (-1)) dX12_argument_11 rfl (fun hv => vok_h hv) (hc2.2 c3)
theorem qX12_argument {l : Launch} {G : GT} {Q : Int → Sh → Mem → Prop} {d : Nat} {S : Sh} {V : Mem} {mc ms : Nat} {x0 x1 x2 x3 : Int} (h : 0 ≤ x0 → inI x1 → inI x2 → inI x3 → XJ l G bX12_argument Q d 0 [vr x0, vi x1, vi x2, vi x3, vu] [] S V mc ms) : Ct l G bX12_argument Q d mc ms [vr x0, vi x1, vi x2, vi x3] S V := Ct.of okX12_argument.1 trivial (Nat.le_of_ble_eq_true rfl) (fun hv => h (hv _ (List.mem_of_getElem? (i := 0) rfl)) (hv _ (List.mem_of_getElem? (i := 1) rfl)) (hv _ (List.mem_of_getElem? (i := 2) rfl)) (hv _ (List.mem_of_getElem? (i := 3) rfl)))
set_option maxRecDepth 10000 in
theorem vX12_act_0 {l : Launch} {G : GT} {Q : Int → Sh → Mem → Prop} {d : Nat} {S : Sh} {V : Mem} {mc ms : Nat} {x0 x1 x2 x3 x4 : Int} (h : S.1 x0 = 13 ∧ CT l G bX12_isConstant d mc ms [vr x0, vi x1, vi x2, vi x3] S V (fun z1 S1 V1 mc1 ms1 => (z1 = 0 → Q (-1) S1 V1) ∧ (¬ (z1 = 0) → (x4 < 0 → Q (-1) S1 V1) ∧ (¬ (x4 < 0) → S1.1 x0 = 13 ∧ S1.1 (V1 x0 11) = 20 ∧ 0 ≤ x1 ∧ x1 < S1.2.1 (V1 x0 11) ∧ (x4 < (V1 (V1 x0 11) x1) → -2147483648 ≤ 12 * x1 ∧ 12 * x1 ≤ 2147483647 ∧ -2147483648 ≤ (12 * x1) + x2 ∧ (12 * x1) + x2 ≤ 2147483647 ∧ -2147483648 ≤ 24 * ((12 * x1) + x2) ∧ 24 * ((12 * x1) + x2) ≤ 2147483647 ∧ -2147483648 ≤ (24 * ((12 * x1) + x2)) + x3 ∧ (24 * ((12 * x1) + x2)) + x3 ≤ 2147483647 ∧ CT l G bX12_uses d mc1 ms1 [vr x0, vi x1, vi x2] S1 V1 (fun z6 S6 V6 mc6 ms6 => (z6 ≠ (-3) → S6.1 x0 = 13 ∧ -2147483648 ≤ 4 * ((24 * ((12 * x1) + x2)) + x3) ∧ 4 * ((24 * ((12 * x1) + x2)) + x3) ≤ 2147483647 ∧ -2147483648 ≤ (4 * ((24 * ((12 * x1) + x2)) + x3)) + x4 ∧ (4 * ((24 * ((12 * x1) + x2)) + x3)) + x4 ≤ 2147483647 ∧ S6.1 (V6 x0 22) = 20 ∧ 0 ≤ ((4 * ((24 * ((12 * x1) + x2)) + x3)) + x4) ∧ ((4 * ((24 * ((12 * x1) + x2)) + x3)) + x4) < S6.2.1 (V6 x0 22) ∧ ((V6 (V6 x0 22) ((4 * ((24 * ((12 * x1) + x2)) + x3)) + x4)) = (-1) → -2147483648 ≤ 12 * x1 ∧ 12 * x1 ≤ 2147483647 ∧ -2147483648 ≤ (12 * x1) + x2 ∧ (12 * x1) + x2 ≤ 2147483647 ∧ -2147483648 ≤ 4 * ((12 * x1) + x2) ∧ 4 * ((12 * x1) + x2) ≤ 2147483647 ∧ -2147483648 ≤ (4 * ((12 * x1) + x2)) + x4 ∧ (4 * ((12 * x1) + x2)) + x4 ≤ 2147483647 ∧ S6.1 (V6 x0 19) = 20 ∧ 0 ≤ ((4 * ((12 * x1) + x2)) + x4) ∧ ((4 * ((12 * x1) + x2)) + x4) < S6.2.1 (V6 x0 19) ∧ ((V6 (V6 x0 19) ((4 * ((12 * x1) + x2)) + x4)) ≠ (-1) → CT l G bX12_value d mc6 ms6 [vr x0, vi (V6 (V6 x0 19) ((4 * ((12 * x1) + x2)) + x4)), vi ((24 * ((12 * x1) + x2)) + x3), vi x4] S6 V6 (fun z11 S11 V11 mc11 ms11 => S11.1 x0 = 13 ∧ CT l G bX12_ends d mc11 ms11 [vr x0, vi z11] S11 V11 (fun z13 S13 V13 mc13 ms13 => Q z13 S13 V13))) ∧ (¬ ((V6 (V6 x0 19) ((4 * ((12 * x1) + x2)) + x4)) ≠ (-1)) → CT l G bX12_failing d mc6 ms6 [vr x0, vi 5, vi (-1)] S6 V6 (fun z15 S15 V15 mc15 ms15 => S15.1 x0 = 13 ∧ CT l G bX12_ends d mc15 ms15 [vr x0, vi z15] S15 V15 (fun z17 S17 V17 mc17 ms17 => Q z17 S17 V17)))) ∧ (¬ ((V6 (V6 x0 22) ((4 * ((24 * ((12 * x1) + x2)) + x3)) + x4)) = (-1)) → ((V6 (V6 x0 22) ((4 * ((24 * ((12 * x1) + x2)) + x3)) + x4)) ≠ (-1) → CT l G bX12_value d mc6 ms6 [vr x0, vi (V6 (V6 x0 22) ((4 * ((24 * ((12 * x1) + x2)) + x3)) + x4)), vi ((24 * ((12 * x1) + x2)) + x3), vi x4] S6 V6 (fun z20 S20 V20 mc20 ms20 => S20.1 x0 = 13 ∧ CT l G bX12_ends d mc20 ms20 [vr x0, vi z20] S20 V20 (fun z22 S22 V22 mc22 ms22 => Q z22 S22 V22))) ∧ (¬ ((V6 (V6 x0 22) ((4 * ((24 * ((12 * x1) + x2)) + x3)) + x4)) ≠ (-1)) → CT l G bX12_failing d mc6 ms6 [vr x0, vi 5, vi (-1)] S6 V6 (fun z24 S24 V24 mc24 ms24 => S24.1 x0 = 13 ∧ CT l G bX12_ends d mc24 ms24 [vr x0, vi z24] S24 V24 (fun z26 S26 V26 mc26 ms26 => Q z26 S26 V26))))) ∧ (¬ (z6 ≠ (-3)) → Q (-3) S6 V6))) ∧ (¬ (x4 < (V1 (V1 x0 11) x1)) → Q (-1) S1 V1))))) : XJ l G bX12_act Q d 0 [vr x0, vi x1, vi x2, vi x3, vi x4, vu, vu, vu] [] S V mc ms := by
  refine X_aload_n dX12_act_0 rfl ?_
  refine X_iload_n dX12_act_1 rfl ?_
  refine X_iload_n dX12_act_2 rfl ?_
  refine X_iload_n dX12_act_3 rfl ?_
  refine X_invV (ci := 12) (as := [vi x1, vi x2, vi x3]) (st := []) okX12_isConstant dX12_act_4 km_RX12_451 rfl rfl (Nat.le_of_ble_eq_true rfl) rfl rfl h.1 (CT.imp h.2 (fun z1 S1 V1 mc1 ms1 hc2 => ?_))
  refine X_if_eq dX12_act_7 (tgt := 26) rfl (fun c3 => ?_) (fun c3 => ?_)
  · refine X_iconst dX12_act_26 (by decide) ?_
    exact X_ret (z := (-1)) dX12_act_27 rfl (fun hv => vok_h hv) (hc2.1 c3)
  · refine X_iload dX12_act_10 rfl ?_
    refine X_if_lt dX12_act_12 (tgt := 26) rfl (fun c4 => ?_) (fun c4 => ?_)
    · refine X_iconst dX12_act_26 (by decide) ?_
      exact X_ret (z := (-1)) dX12_act_27 rfl (fun hv => vok_h hv) ((hc2.2 c3).1 c4)
    · refine X_iload dX12_act_15 rfl ?_
      refine X_aload_n dX12_act_17 rfl ?_
      refine X_getfield (ci := 12) (k := 11) (v := vr (V1 x0 11)) dX12_act_18 rfl (by decide) kf_RX12_20 rfl ((hc2.2 c3).2 c4).1 ?_
      refine X_iload_n dX12_act_21 rfl ?_
      refine X_iaload dX12_act_22 ((hc2.2 c3).2 c4).2.1 ((hc2.2 c3).2 c4).2.2.1 ((hc2.2 c3).2 c4).2.2.2.1 ?_
      refine X_icmp_lt dX12_act_23 (tgt := 28) rfl (fun c5 => ?_) (fun c5 => ?_)
      · refine X_bipush dX12_act_28 (by decide) (by decide) ?_
        refine X_bipush dX12_act_30 (by decide) (by decide) ?_
        refine X_iload_n dX12_act_32 rfl ?_
        refine X_imulN dX12_act_33 (((hc2.2 c3).2 c4).2.2.2.2.1 c5).1 (((hc2.2 c3).2 c4).2.2.2.2.1 c5).2.1 ?_
        refine X_iload_n dX12_act_34 rfl ?_
        refine X_iaddN dX12_act_35 (((hc2.2 c3).2 c4).2.2.2.2.1 c5).2.2.1 (((hc2.2 c3).2 c4).2.2.2.2.1 c5).2.2.2.1 ?_
        refine X_imulN dX12_act_36 (((hc2.2 c3).2 c4).2.2.2.2.1 c5).2.2.2.2.1 (((hc2.2 c3).2 c4).2.2.2.2.1 c5).2.2.2.2.2.1 ?_
        refine X_iload_n dX12_act_37 rfl ?_
        refine X_iaddN dX12_act_38 (((hc2.2 c3).2 c4).2.2.2.2.1 c5).2.2.2.2.2.2.1 (((hc2.2 c3).2 c4).2.2.2.2.1 c5).2.2.2.2.2.2.2.1 ?_
        refine X_istore dX12_act_39 (by decide) rfl ?_
        refine X_aload_n dX12_act_41 rfl ?_
        refine X_iload_n dX12_act_42 rfl ?_
        refine X_iload_n dX12_act_43 rfl ?_
        refine X_invV (ci := 12) (as := [vi x1, vi x2]) (st := []) okX12_uses dX12_act_44 km_RX12_455 rfl rfl (Nat.le_of_ble_eq_true rfl) rfl rfl ((hc2.2 c3).2 c4).1 (CT.imp (((hc2.2 c3).2 c4).2.2.2.2.1 c5).2.2.2.2.2.2.2.2 (fun z6 S6 V6 mc6 ms6 hc7 => ?_))
        refine X_bipush dX12_act_47 (by decide) (by decide) ?_
        refine X_icmp_ne dX12_act_49 (tgt := 55) rfl (fun c8 => ?_) (fun c8 => ?_)
        · refine X_aload_n dX12_act_55 rfl ?_
          refine X_getfield (ci := 12) (k := 22) (v := vr (V6 x0 22)) dX12_act_56 rfl (by decide) kf_RX12_53 rfl (hc7.1 c8).1 ?_
          refine X_iconst dX12_act_59 (by decide) ?_
          refine X_iload dX12_act_60 rfl ?_
          refine X_imulN dX12_act_62 (hc7.1 c8).2.1 (hc7.1 c8).2.2.1 ?_
          refine X_iload dX12_act_63 rfl ?_
          refine X_iaddN dX12_act_65 (hc7.1 c8).2.2.2.1 (hc7.1 c8).2.2.2.2.1 ?_
          refine X_iaload dX12_act_66 (hc7.1 c8).2.2.2.2.2.1 (hc7.1 c8).2.2.2.2.2.2.1 (hc7.1 c8).2.2.2.2.2.2.2.1 ?_
          refine X_iconst dX12_act_67 (by decide) ?_
          refine X_icmp_eq dX12_act_68 (tgt := 86) rfl (fun c9 => ?_) (fun c9 => ?_)
          · refine X_aload_n dX12_act_86 rfl ?_
            refine X_getfield (ci := 12) (k := 19) (v := vr (V6 x0 19)) dX12_act_87 rfl (by decide) kf_RX12_44 rfl (hc7.1 c8).1 ?_
            refine X_iconst dX12_act_90 (by decide) ?_
            refine X_bipush dX12_act_91 (by decide) (by decide) ?_
            refine X_iload_n dX12_act_93 rfl ?_
            refine X_imulN dX12_act_94 ((hc7.1 c8).2.2.2.2.2.2.2.2.1 c9).1 ((hc7.1 c8).2.2.2.2.2.2.2.2.1 c9).2.1 ?_
            refine X_iload_n dX12_act_95 rfl ?_
            refine X_iaddN dX12_act_96 ((hc7.1 c8).2.2.2.2.2.2.2.2.1 c9).2.2.1 ((hc7.1 c8).2.2.2.2.2.2.2.2.1 c9).2.2.2.1 ?_
            refine X_imulN dX12_act_97 ((hc7.1 c8).2.2.2.2.2.2.2.2.1 c9).2.2.2.2.1 ((hc7.1 c8).2.2.2.2.2.2.2.2.1 c9).2.2.2.2.2.1 ?_
            refine X_iload dX12_act_98 rfl ?_
            refine X_iaddN dX12_act_100 ((hc7.1 c8).2.2.2.2.2.2.2.2.1 c9).2.2.2.2.2.2.1 ((hc7.1 c8).2.2.2.2.2.2.2.2.1 c9).2.2.2.2.2.2.2.1 ?_
            refine X_iaload dX12_act_101 ((hc7.1 c8).2.2.2.2.2.2.2.2.1 c9).2.2.2.2.2.2.2.2.1 ((hc7.1 c8).2.2.2.2.2.2.2.2.1 c9).2.2.2.2.2.2.2.2.2.1 ((hc7.1 c8).2.2.2.2.2.2.2.2.1 c9).2.2.2.2.2.2.2.2.2.2.1 ?_
            refine X_istore dX12_act_102 (by decide) rfl ?_
            refine X_iload dX12_act_104 rfl ?_
            refine X_iconst dX12_act_106 (by decide) ?_
            refine X_icmp_ne dX12_act_107 (tgt := 119) rfl (fun c10 => ?_) (fun c10 => ?_)
            · refine X_aload_n dX12_act_119 rfl ?_
              refine X_iload dX12_act_120 rfl ?_
              refine X_iload dX12_act_122 rfl ?_
              refine X_iload dX12_act_124 rfl ?_
              refine X_invV (ci := 12) (as := [vi (V6 (V6 x0 19) ((4 * ((12 * x1) + x2)) + x4)), vi ((24 * ((12 * x1) + x2)) + x3), vi x4]) (st := []) okX12_value dX12_act_126 km_RX12_422 rfl rfl (Nat.le_of_ble_eq_true rfl) rfl rfl (hc7.1 c8).1 (CT.imp (((hc7.1 c8).2.2.2.2.2.2.2.2.1 c9).2.2.2.2.2.2.2.2.2.2.2.1 c10) (fun z11 S11 V11 mc11 ms11 hc12 => ?_))
              refine X_istore dX12_act_129 (by decide) rfl ?_
              refine X_aload_n dX12_act_131 rfl ?_
              refine X_iload dX12_act_132 rfl ?_
              refine X_invV (ci := 12) (as := [vi z11]) (st := []) okX12_ends dX12_act_134 km_RX12_458 rfl rfl (Nat.le_of_ble_eq_true rfl) rfl rfl hc12.1 (CT.imp hc12.2 (fun z13 S13 V13 mc13 ms13 hc14 => ?_))
              exact X_ret (z := z13) dX12_act_137 rfl (fun hv => vok_h hv) hc14
            · refine X_aload_n dX12_act_110 rfl ?_
              refine X_iconst dX12_act_111 (by decide) ?_
              refine X_iconst dX12_act_112 (by decide) ?_
              refine X_invV (ci := 12) (as := [vi 5, vi (-1)]) (st := []) okX12_failing dX12_act_113 km_RX12_407 rfl rfl (Nat.le_of_ble_eq_true rfl) rfl rfl (hc7.1 c8).1 (CT.imp (((hc7.1 c8).2.2.2.2.2.2.2.2.1 c9).2.2.2.2.2.2.2.2.2.2.2.2 c10) (fun z15 S15 V15 mc15 ms15 hc16 => ?_))
              refine X_goto dX12_act_116 (tgt := 129) rfl ?_
              refine X_istore dX12_act_129 (by decide) rfl ?_
              refine X_aload_n dX12_act_131 rfl ?_
              refine X_iload dX12_act_132 rfl ?_
              refine X_invV (ci := 12) (as := [vi z15]) (st := []) okX12_ends dX12_act_134 km_RX12_458 rfl rfl (Nat.le_of_ble_eq_true rfl) rfl rfl hc16.1 (CT.imp hc16.2 (fun z17 S17 V17 mc17 ms17 hc18 => ?_))
              exact X_ret (z := z17) dX12_act_137 rfl (fun hv => vok_h hv) hc18
          · refine X_aload_n dX12_act_71 rfl ?_
            refine X_getfield (ci := 12) (k := 22) (v := vr (V6 x0 22)) dX12_act_72 rfl (by decide) kf_RX12_53 rfl (hc7.1 c8).1 ?_
            refine X_iconst dX12_act_75 (by decide) ?_
            refine X_iload dX12_act_76 rfl ?_
            refine X_imulN dX12_act_78 (hc7.1 c8).2.1 (hc7.1 c8).2.2.1 ?_
            refine X_iload dX12_act_79 rfl ?_
            refine X_iaddN dX12_act_81 (hc7.1 c8).2.2.2.1 (hc7.1 c8).2.2.2.2.1 ?_
            refine X_iaload dX12_act_82 (hc7.1 c8).2.2.2.2.2.1 (hc7.1 c8).2.2.2.2.2.2.1 (hc7.1 c8).2.2.2.2.2.2.2.1 ?_
            refine X_goto dX12_act_83 (tgt := 102) rfl ?_
            refine X_istore dX12_act_102 (by decide) rfl ?_
            refine X_iload dX12_act_104 rfl ?_
            refine X_iconst dX12_act_106 (by decide) ?_
            refine X_icmp_ne dX12_act_107 (tgt := 119) rfl (fun c19 => ?_) (fun c19 => ?_)
            · refine X_aload_n dX12_act_119 rfl ?_
              refine X_iload dX12_act_120 rfl ?_
              refine X_iload dX12_act_122 rfl ?_
              refine X_iload dX12_act_124 rfl ?_
              refine X_invV (ci := 12) (as := [vi (V6 (V6 x0 22) ((4 * ((24 * ((12 * x1) + x2)) + x3)) + x4)), vi ((24 * ((12 * x1) + x2)) + x3), vi x4]) (st := []) okX12_value dX12_act_126 km_RX12_422 rfl rfl (Nat.le_of_ble_eq_true rfl) rfl rfl (hc7.1 c8).1 (CT.imp (((hc7.1 c8).2.2.2.2.2.2.2.2.2 c9).1 c19) (fun z20 S20 V20 mc20 ms20 hc21 => ?_))
              refine X_istore dX12_act_129 (by decide) rfl ?_
              refine X_aload_n dX12_act_131 rfl ?_
              refine X_iload dX12_act_132 rfl ?_
              refine X_invV (ci := 12) (as := [vi z20]) (st := []) okX12_ends dX12_act_134 km_RX12_458 rfl rfl (Nat.le_of_ble_eq_true rfl) rfl rfl hc21.1 (CT.imp hc21.2 (fun z22 S22 V22 mc22 ms22 hc23 => ?_))
              exact X_ret (z := z22) dX12_act_137 rfl (fun hv => vok_h hv) hc23
            · refine X_aload_n dX12_act_110 rfl ?_
              refine X_iconst dX12_act_111 (by decide) ?_
              refine X_iconst dX12_act_112 (by decide) ?_
              refine X_invV (ci := 12) (as := [vi 5, vi (-1)]) (st := []) okX12_failing dX12_act_113 km_RX12_407 rfl rfl (Nat.le_of_ble_eq_true rfl) rfl rfl (hc7.1 c8).1 (CT.imp (((hc7.1 c8).2.2.2.2.2.2.2.2.2 c9).2 c19) (fun z24 S24 V24 mc24 ms24 hc25 => ?_))
              refine X_goto dX12_act_116 (tgt := 129) rfl ?_
              refine X_istore dX12_act_129 (by decide) rfl ?_
              refine X_aload_n dX12_act_131 rfl ?_
              refine X_iload dX12_act_132 rfl ?_
              refine X_invV (ci := 12) (as := [vi z24]) (st := []) okX12_ends dX12_act_134 km_RX12_458 rfl rfl (Nat.le_of_ble_eq_true rfl) rfl rfl hc25.1 (CT.imp hc25.2 (fun z26 S26 V26 mc26 ms26 hc27 => ?_))
              exact X_ret (z := z26) dX12_act_137 rfl (fun hv => vok_h hv) hc27
        · refine X_bipush dX12_act_52 (by decide) (by decide) ?_
          exact X_ret (z := (-3)) dX12_act_54 rfl (fun hv => vok_h hv) (hc7.2 c8)
      · refine X_iconst dX12_act_26 (by decide) ?_
        exact X_ret (z := (-1)) dX12_act_27 rfl (fun hv => vok_h hv) (((hc2.2 c3).2 c4).2.2.2.2.2 c5)
theorem qX12_act {l : Launch} {G : GT} {Q : Int → Sh → Mem → Prop} {d : Nat} {S : Sh} {V : Mem} {mc ms : Nat} {x0 x1 x2 x3 x4 : Int} (h : 0 ≤ x0 → inI x1 → inI x2 → inI x3 → inI x4 → XJ l G bX12_act Q d 0 [vr x0, vi x1, vi x2, vi x3, vi x4, vu, vu, vu] [] S V mc ms) : Ct l G bX12_act Q d mc ms [vr x0, vi x1, vi x2, vi x3, vi x4] S V := Ct.of okX12_act.1 trivial (Nat.le_of_ble_eq_true rfl) (fun hv => h (hv _ (List.mem_of_getElem? (i := 0) rfl)) (hv _ (List.mem_of_getElem? (i := 1) rfl)) (hv _ (List.mem_of_getElem? (i := 2) rfl)) (hv _ (List.mem_of_getElem? (i := 3) rfl)) (hv _ (List.mem_of_getElem? (i := 4) rfl)))
set_option maxRecDepth 10000 in
theorem vX12_entry_0 {l : Launch} {G : GT} {Q : Int → Sh → Mem → Prop} {d : Nat} {S : Sh} {V : Mem} {mc ms : Nat} {x0 x1 x2 x3 x4 : Int} (h : S.1 x0 = 13 ∧ CT l G bX12_isEnum d mc ms [vr x0, vi x1, vi x2] S V (fun z1 S1 V1 mc1 ms1 => (z1 = 0 → Q (-1) S1 V1) ∧ (¬ (z1 = 0) → (x3 < 0 → Q (-1) S1 V1) ∧ (¬ (x3 < 0) → S1.1 x0 = 13 ∧ -2147483648 ≤ 12 * x1 ∧ 12 * x1 ≤ 2147483647 ∧ -2147483648 ≤ (12 * x1) + x2 ∧ (12 * x1) + x2 ≤ 2147483647 ∧ S1.1 (V1 x0 15) = 20 ∧ 0 ≤ ((12 * x1) + x2) ∧ ((12 * x1) + x2) < S1.2.1 (V1 x0 15) ∧ (x3 < (V1 (V1 x0 15) ((12 * x1) + x2)) → -2147483648 ≤ 4 * ((12 * x1) + x2) ∧ 4 * ((12 * x1) + x2) ≤ 2147483647 ∧ -2147483648 ≤ (4 * ((12 * x1) + x2)) + x3 ∧ (4 * ((12 * x1) + x2)) + x3 ≤ 2147483647 ∧ (x4 < 0 → Q (-1) S1 V1) ∧ (¬ (x4 < 0) → S1.1 (V1 x0 24) = 20 ∧ 0 ≤ ((4 * ((12 * x1) + x2)) + x3) ∧ ((4 * ((12 * x1) + x2)) + x3) < S1.2.1 (V1 x0 24) ∧ (x4 < (V1 (V1 x0 24) ((4 * ((12 * x1) + x2)) + x3)) → CT l G bX12_uses d mc1 ms1 [vr x0, vi x1, vi x2] S1 V1 (fun z8 S8 V8 mc8 ms8 => S8.1 x0 = 13 ∧ -2147483648 ≤ 12 * ((4 * ((12 * x1) + x2)) + x3) ∧ 12 * ((4 * ((12 * x1) + x2)) + x3) ≤ 2147483647 ∧ -2147483648 ≤ (12 * ((4 * ((12 * x1) + x2)) + x3)) + x4 ∧ (12 * ((4 * ((12 * x1) + x2)) + x3)) + x4 ≤ 2147483647 ∧ S8.1 (V8 x0 56) = 20 ∧ 0 ≤ ((12 * ((4 * ((12 * x1) + x2)) + x3)) + x4) ∧ ((12 * ((4 * ((12 * x1) + x2)) + x3)) + x4) < S8.2.1 (V8 x0 56) ∧ CT l G bX12_ends d mc8 ms8 [vr x0, vi (V8 (V8 x0 56) ((12 * ((4 * ((12 * x1) + x2)) + x3)) + x4))] S8 V8 (fun z10 S10 V10 mc10 ms10 => Q z10 S10 V10))) ∧ (¬ (x4 < (V1 (V1 x0 24) ((4 * ((12 * x1) + x2)) + x3))) → Q (-1) S1 V1))) ∧ (¬ (x3 < (V1 (V1 x0 15) ((12 * x1) + x2))) → Q (-1) S1 V1))))) : XJ l G bX12_entry Q d 0 [vr x0, vi x1, vi x2, vi x3, vi x4, vu, vu] [] S V mc ms := by
  refine X_aload_n dX12_entry_0 rfl ?_
  refine X_iload_n dX12_entry_1 rfl ?_
  refine X_iload_n dX12_entry_2 rfl ?_
  refine X_invV (ci := 12) (as := [vi x1, vi x2]) (st := []) okX12_isEnum dX12_entry_3 km_RX12_439 rfl rfl (Nat.le_of_ble_eq_true rfl) rfl rfl h.1 (CT.imp h.2 (fun z1 S1 V1 mc1 ms1 hc2 => ?_))
  refine X_if_eq dX12_entry_6 (tgt := 28) rfl (fun c3 => ?_) (fun c3 => ?_)
  · refine X_iconst dX12_entry_28 (by decide) ?_
    exact X_ret (z := (-1)) dX12_entry_29 rfl (fun hv => vok_h hv) (hc2.1 c3)
  · refine X_iload_n dX12_entry_9 rfl ?_
    refine X_if_lt dX12_entry_10 (tgt := 28) rfl (fun c4 => ?_) (fun c4 => ?_)
    · refine X_iconst dX12_entry_28 (by decide) ?_
      exact X_ret (z := (-1)) dX12_entry_29 rfl (fun hv => vok_h hv) ((hc2.2 c3).1 c4)
    · refine X_iload_n dX12_entry_13 rfl ?_
      refine X_aload_n dX12_entry_14 rfl ?_
      refine X_getfield (ci := 12) (k := 15) (v := vr (V1 x0 15)) dX12_entry_15 rfl (by decide) kf_RX12_32 rfl ((hc2.2 c3).2 c4).1 ?_
      refine X_bipush dX12_entry_18 (by decide) (by decide) ?_
      refine X_iload_n dX12_entry_20 rfl ?_
      refine X_imulN dX12_entry_21 ((hc2.2 c3).2 c4).2.1 ((hc2.2 c3).2 c4).2.2.1 ?_
      refine X_iload_n dX12_entry_22 rfl ?_
      refine X_iaddN dX12_entry_23 ((hc2.2 c3).2 c4).2.2.2.1 ((hc2.2 c3).2 c4).2.2.2.2.1 ?_
      refine X_iaload dX12_entry_24 ((hc2.2 c3).2 c4).2.2.2.2.2.1 ((hc2.2 c3).2 c4).2.2.2.2.2.2.1 ((hc2.2 c3).2 c4).2.2.2.2.2.2.2.1 ?_
      refine X_icmp_lt dX12_entry_25 (tgt := 30) rfl (fun c5 => ?_) (fun c5 => ?_)
      · refine X_iconst dX12_entry_30 (by decide) ?_
        refine X_bipush dX12_entry_31 (by decide) (by decide) ?_
        refine X_iload_n dX12_entry_33 rfl ?_
        refine X_imulN dX12_entry_34 ((hc2.2 c3).2 c4).2.1 ((hc2.2 c3).2 c4).2.2.1 ?_
        refine X_iload_n dX12_entry_35 rfl ?_
        refine X_iaddN dX12_entry_36 ((hc2.2 c3).2 c4).2.2.2.1 ((hc2.2 c3).2 c4).2.2.2.2.1 ?_
        refine X_imulN dX12_entry_37 (((hc2.2 c3).2 c4).2.2.2.2.2.2.2.2.1 c5).1 (((hc2.2 c3).2 c4).2.2.2.2.2.2.2.2.1 c5).2.1 ?_
        refine X_iload_n dX12_entry_38 rfl ?_
        refine X_iaddN dX12_entry_39 (((hc2.2 c3).2 c4).2.2.2.2.2.2.2.2.1 c5).2.2.1 (((hc2.2 c3).2 c4).2.2.2.2.2.2.2.2.1 c5).2.2.2.1 ?_
        refine X_istore dX12_entry_40 (by decide) rfl ?_
        refine X_iload dX12_entry_42 rfl ?_
        refine X_if_lt dX12_entry_44 (tgt := 59) rfl (fun c6 => ?_) (fun c6 => ?_)
        · refine X_iconst dX12_entry_59 (by decide) ?_
          exact X_ret (z := (-1)) dX12_entry_60 rfl (fun hv => vok_h hv) ((((hc2.2 c3).2 c4).2.2.2.2.2.2.2.2.1 c5).2.2.2.2.1 c6)
        · refine X_iload dX12_entry_47 rfl ?_
          refine X_aload_n dX12_entry_49 rfl ?_
          refine X_getfield (ci := 12) (k := 24) (v := vr (V1 x0 24)) dX12_entry_50 rfl (by decide) kf_RX12_59 rfl ((hc2.2 c3).2 c4).1 ?_
          refine X_iload dX12_entry_53 rfl ?_
          refine X_iaload dX12_entry_55 ((((hc2.2 c3).2 c4).2.2.2.2.2.2.2.2.1 c5).2.2.2.2.2 c6).1 ((((hc2.2 c3).2 c4).2.2.2.2.2.2.2.2.1 c5).2.2.2.2.2 c6).2.1 ((((hc2.2 c3).2 c4).2.2.2.2.2.2.2.2.1 c5).2.2.2.2.2 c6).2.2.1 ?_
          refine X_icmp_lt dX12_entry_56 (tgt := 61) rfl (fun c7 => ?_) (fun c7 => ?_)
          · refine X_aload_n dX12_entry_61 rfl ?_
            refine X_iload_n dX12_entry_62 rfl ?_
            refine X_iload_n dX12_entry_63 rfl ?_
            refine X_invV (ci := 12) (as := [vi x1, vi x2]) (st := []) okX12_uses dX12_entry_64 km_RX12_455 rfl rfl (Nat.le_of_ble_eq_true rfl) rfl rfl ((hc2.2 c3).2 c4).1 (CT.imp (((((hc2.2 c3).2 c4).2.2.2.2.2.2.2.2.1 c5).2.2.2.2.2 c6).2.2.2.1 c7) (fun z8 S8 V8 mc8 ms8 hc9 => ?_))
            refine X_istore dX12_entry_67 (by decide) rfl ?_
            refine X_aload_n dX12_entry_69 rfl ?_
            refine X_aload_n dX12_entry_70 rfl ?_
            refine X_getfield (ci := 12) (k := 56) (v := vr (V8 x0 56)) dX12_entry_71 rfl (by decide) kf_RX12_128 rfl hc9.1 ?_
            refine X_bipush dX12_entry_74 (by decide) (by decide) ?_
            refine X_iload dX12_entry_76 rfl ?_
            refine X_imulN dX12_entry_78 hc9.2.1 hc9.2.2.1 ?_
            refine X_iload dX12_entry_79 rfl ?_
            refine X_iaddN dX12_entry_81 hc9.2.2.2.1 hc9.2.2.2.2.1 ?_
            refine X_iaload dX12_entry_82 hc9.2.2.2.2.2.1 hc9.2.2.2.2.2.2.1 hc9.2.2.2.2.2.2.2.1 ?_
            refine X_invV (ci := 12) (as := [vi (V8 (V8 x0 56) ((12 * ((4 * ((12 * x1) + x2)) + x3)) + x4))]) (st := []) okX12_ends dX12_entry_83 km_RX12_458 rfl rfl (Nat.le_of_ble_eq_true rfl) rfl rfl hc9.1 (CT.imp hc9.2.2.2.2.2.2.2.2 (fun z10 S10 V10 mc10 ms10 hc11 => ?_))
            exact X_ret (z := z10) dX12_entry_86 rfl (fun hv => vok_h hv) hc11
          · refine X_iconst dX12_entry_59 (by decide) ?_
            exact X_ret (z := (-1)) dX12_entry_60 rfl (fun hv => vok_h hv) (((((hc2.2 c3).2 c4).2.2.2.2.2.2.2.2.1 c5).2.2.2.2.2 c6).2.2.2.2 c7)
      · refine X_iconst dX12_entry_28 (by decide) ?_
        exact X_ret (z := (-1)) dX12_entry_29 rfl (fun hv => vok_h hv) (((hc2.2 c3).2 c4).2.2.2.2.2.2.2.2.2 c5)
theorem qX12_entry {l : Launch} {G : GT} {Q : Int → Sh → Mem → Prop} {d : Nat} {S : Sh} {V : Mem} {mc ms : Nat} {x0 x1 x2 x3 x4 : Int} (h : 0 ≤ x0 → inI x1 → inI x2 → inI x3 → inI x4 → XJ l G bX12_entry Q d 0 [vr x0, vi x1, vi x2, vi x3, vi x4, vu, vu] [] S V mc ms) : Ct l G bX12_entry Q d mc ms [vr x0, vi x1, vi x2, vi x3, vi x4] S V := Ct.of okX12_entry.1 trivial (Nat.le_of_ble_eq_true rfl) (fun hv => h (hv _ (List.mem_of_getElem? (i := 0) rfl)) (hv _ (List.mem_of_getElem? (i := 1) rfl)) (hv _ (List.mem_of_getElem? (i := 2) rfl)) (hv _ (List.mem_of_getElem? (i := 3) rfl)) (hv _ (List.mem_of_getElem? (i := 4) rfl)))
set_option maxRecDepth 10000 in
theorem vX12_holder_0 {l : Launch} {G : GT} {Q : Int → Sh → Mem → Prop} {d : Nat} {S : Sh} {V : Mem} {mc ms : Nat} {x0 x1 x2 x3 : Int} (h : S.1 x0 = 13 ∧ CT l G bX12_isEnum d mc ms [vr x0, vi x1, vi x2] S V (fun z1 S1 V1 mc1 ms1 => (z1 = 0 → Q (-1) S1 V1) ∧ (¬ (z1 = 0) → (x3 < 0 → Q (-1) S1 V1) ∧ (¬ (x3 < 0) → S1.1 x0 = 13 ∧ -2147483648 ≤ 12 * x1 ∧ 12 * x1 ≤ 2147483647 ∧ -2147483648 ≤ (12 * x1) + x2 ∧ (12 * x1) + x2 ≤ 2147483647 ∧ S1.1 (V1 x0 17) = 20 ∧ 0 ≤ ((12 * x1) + x2) ∧ ((12 * x1) + x2) < S1.2.1 (V1 x0 17) ∧ (x3 < (V1 (V1 x0 17) ((12 * x1) + x2)) → -2147483648 ≤ 4 * x2 ∧ 4 * x2 ≤ 2147483647 ∧ -2147483648 ≤ 100 + (4 * x2) ∧ 100 + (4 * x2) ≤ 2147483647 ∧ -2147483648 ≤ (100 + (4 * x2)) + x3 ∧ (100 + (4 * x2)) + x3 ≤ 2147483647 ∧ CT l G bX12_uses d mc1 ms1 [vr x0, vi x1, vi ((100 + (4 * x2)) + x3)] S1 V1 (fun z6 S6 V6 mc6 ms6 => S6.1 x0 = 13 ∧ -2147483648 ≤ 12 * x1 ∧ 12 * x1 ≤ 2147483647 ∧ -2147483648 ≤ (12 * x1) + x2 ∧ (12 * x1) + x2 ≤ 2147483647 ∧ -2147483648 ≤ 4 * ((12 * x1) + x2) ∧ 4 * ((12 * x1) + x2) ≤ 2147483647 ∧ -2147483648 ≤ (4 * ((12 * x1) + x2)) + x3 ∧ (4 * ((12 * x1) + x2)) + x3 ≤ 2147483647 ∧ S6.1 (V6 x0 57) = 20 ∧ 0 ≤ ((4 * ((12 * x1) + x2)) + x3) ∧ ((4 * ((12 * x1) + x2)) + x3) < S6.2.1 (V6 x0 57) ∧ CT l G bX12_ends d mc6 ms6 [vr x0, vi (V6 (V6 x0 57) ((4 * ((12 * x1) + x2)) + x3))] S6 V6 (fun z8 S8 V8 mc8 ms8 => Q z8 S8 V8))) ∧ (¬ (x3 < (V1 (V1 x0 17) ((12 * x1) + x2))) → Q (-1) S1 V1))))) : XJ l G bX12_holder Q d 0 [vr x0, vi x1, vi x2, vi x3, vu] [] S V mc ms := by
  refine X_aload_n dX12_holder_0 rfl ?_
  refine X_iload_n dX12_holder_1 rfl ?_
  refine X_iload_n dX12_holder_2 rfl ?_
  refine X_invV (ci := 12) (as := [vi x1, vi x2]) (st := []) okX12_isEnum dX12_holder_3 km_RX12_439 rfl rfl (Nat.le_of_ble_eq_true rfl) rfl rfl h.1 (CT.imp h.2 (fun z1 S1 V1 mc1 ms1 hc2 => ?_))
  refine X_if_eq dX12_holder_6 (tgt := 28) rfl (fun c3 => ?_) (fun c3 => ?_)
  · refine X_iconst dX12_holder_28 (by decide) ?_
    exact X_ret (z := (-1)) dX12_holder_29 rfl (fun hv => vok_h hv) (hc2.1 c3)
  · refine X_iload_n dX12_holder_9 rfl ?_
    refine X_if_lt dX12_holder_10 (tgt := 28) rfl (fun c4 => ?_) (fun c4 => ?_)
    · refine X_iconst dX12_holder_28 (by decide) ?_
      exact X_ret (z := (-1)) dX12_holder_29 rfl (fun hv => vok_h hv) ((hc2.2 c3).1 c4)
    · refine X_iload_n dX12_holder_13 rfl ?_
      refine X_aload_n dX12_holder_14 rfl ?_
      refine X_getfield (ci := 12) (k := 17) (v := vr (V1 x0 17)) dX12_holder_15 rfl (by decide) kf_RX12_38 rfl ((hc2.2 c3).2 c4).1 ?_
      refine X_bipush dX12_holder_18 (by decide) (by decide) ?_
      refine X_iload_n dX12_holder_20 rfl ?_
      refine X_imulN dX12_holder_21 ((hc2.2 c3).2 c4).2.1 ((hc2.2 c3).2 c4).2.2.1 ?_
      refine X_iload_n dX12_holder_22 rfl ?_
      refine X_iaddN dX12_holder_23 ((hc2.2 c3).2 c4).2.2.2.1 ((hc2.2 c3).2 c4).2.2.2.2.1 ?_
      refine X_iaload dX12_holder_24 ((hc2.2 c3).2 c4).2.2.2.2.2.1 ((hc2.2 c3).2 c4).2.2.2.2.2.2.1 ((hc2.2 c3).2 c4).2.2.2.2.2.2.2.1 ?_
      refine X_icmp_lt dX12_holder_25 (tgt := 30) rfl (fun c5 => ?_) (fun c5 => ?_)
      · refine X_aload_n dX12_holder_30 rfl ?_
        refine X_iload_n dX12_holder_31 rfl ?_
        refine X_bipush dX12_holder_32 (by decide) (by decide) ?_
        refine X_iconst dX12_holder_34 (by decide) ?_
        refine X_iload_n dX12_holder_35 rfl ?_
        refine X_imulN dX12_holder_36 (((hc2.2 c3).2 c4).2.2.2.2.2.2.2.2.1 c5).1 (((hc2.2 c3).2 c4).2.2.2.2.2.2.2.2.1 c5).2.1 ?_
        refine X_iaddN dX12_holder_37 (((hc2.2 c3).2 c4).2.2.2.2.2.2.2.2.1 c5).2.2.1 (((hc2.2 c3).2 c4).2.2.2.2.2.2.2.2.1 c5).2.2.2.1 ?_
        refine X_iload_n dX12_holder_38 rfl ?_
        refine X_iaddN dX12_holder_39 (((hc2.2 c3).2 c4).2.2.2.2.2.2.2.2.1 c5).2.2.2.2.1 (((hc2.2 c3).2 c4).2.2.2.2.2.2.2.2.1 c5).2.2.2.2.2.1 ?_
        refine X_invV (ci := 12) (as := [vi x1, vi ((100 + (4 * x2)) + x3)]) (st := []) okX12_uses dX12_holder_40 km_RX12_455 rfl rfl (Nat.le_of_ble_eq_true rfl) rfl rfl ((hc2.2 c3).2 c4).1 (CT.imp (((hc2.2 c3).2 c4).2.2.2.2.2.2.2.2.1 c5).2.2.2.2.2.2 (fun z6 S6 V6 mc6 ms6 hc7 => ?_))
        refine X_istore dX12_holder_43 (by decide) rfl ?_
        refine X_aload_n dX12_holder_45 rfl ?_
        refine X_aload_n dX12_holder_46 rfl ?_
        refine X_getfield (ci := 12) (k := 57) (v := vr (V6 x0 57)) dX12_holder_47 rfl (by decide) kf_RX12_131 rfl hc7.1 ?_
        refine X_iconst dX12_holder_50 (by decide) ?_
        refine X_bipush dX12_holder_51 (by decide) (by decide) ?_
        refine X_iload_n dX12_holder_53 rfl ?_
        refine X_imulN dX12_holder_54 hc7.2.1 hc7.2.2.1 ?_
        refine X_iload_n dX12_holder_55 rfl ?_
        refine X_iaddN dX12_holder_56 hc7.2.2.2.1 hc7.2.2.2.2.1 ?_
        refine X_imulN dX12_holder_57 hc7.2.2.2.2.2.1 hc7.2.2.2.2.2.2.1 ?_
        refine X_iload_n dX12_holder_58 rfl ?_
        refine X_iaddN dX12_holder_59 hc7.2.2.2.2.2.2.2.1 hc7.2.2.2.2.2.2.2.2.1 ?_
        refine X_iaload dX12_holder_60 hc7.2.2.2.2.2.2.2.2.2.1 hc7.2.2.2.2.2.2.2.2.2.2.1 hc7.2.2.2.2.2.2.2.2.2.2.2.1 ?_
        refine X_invV (ci := 12) (as := [vi (V6 (V6 x0 57) ((4 * ((12 * x1) + x2)) + x3))]) (st := []) okX12_ends dX12_holder_61 km_RX12_458 rfl rfl (Nat.le_of_ble_eq_true rfl) rfl rfl hc7.1 (CT.imp hc7.2.2.2.2.2.2.2.2.2.2.2.2 (fun z8 S8 V8 mc8 ms8 hc9 => ?_))
        exact X_ret (z := z8) dX12_holder_64 rfl (fun hv => vok_h hv) hc9
      · refine X_iconst dX12_holder_28 (by decide) ?_
        exact X_ret (z := (-1)) dX12_holder_29 rfl (fun hv => vok_h hv) (((hc2.2 c3).2 c4).2.2.2.2.2.2.2.2.2 c5)
theorem qX12_holder {l : Launch} {G : GT} {Q : Int → Sh → Mem → Prop} {d : Nat} {S : Sh} {V : Mem} {mc ms : Nat} {x0 x1 x2 x3 : Int} (h : 0 ≤ x0 → inI x1 → inI x2 → inI x3 → XJ l G bX12_holder Q d 0 [vr x0, vi x1, vi x2, vi x3, vu] [] S V mc ms) : Ct l G bX12_holder Q d mc ms [vr x0, vi x1, vi x2, vi x3] S V := Ct.of okX12_holder.1 trivial (Nat.le_of_ble_eq_true rfl) (fun hv => h (hv _ (List.mem_of_getElem? (i := 0) rfl)) (hv _ (List.mem_of_getElem? (i := 1) rfl)) (hv _ (List.mem_of_getElem? (i := 2) rfl)) (hv _ (List.mem_of_getElem? (i := 3) rfl)))
set_option maxRecDepth 10000 in
theorem vX12_branch_0 {l : Launch} {G : GT} {Q : Int → Sh → Mem → Prop} {d : Nat} {S : Sh} {V : Mem} {mc ms : Nat} {x0 x1 x2 x3 x4 : Int} (h : S.1 x0 = 13 ∧ CT l G bX12_isConstant d mc ms [vr x0, vi x1, vi x2, vi x4] S V (fun z1 S1 V1 mc1 ms1 => (z1 = 0 → Q (-1) S1 V1) ∧ (¬ (z1 = 0) → (x3 < 0 → Q (-1) S1 V1) ∧ (¬ (x3 < 0) → S1.1 x0 = 13 ∧ -2147483648 ≤ 12 * x1 ∧ 12 * x1 ≤ 2147483647 ∧ -2147483648 ≤ (12 * x1) + x2 ∧ (12 * x1) + x2 ≤ 2147483647 ∧ S1.1 (V1 x0 18) = 20 ∧ 0 ≤ ((12 * x1) + x2) ∧ ((12 * x1) + x2) < S1.2.1 (V1 x0 18) ∧ (x3 < (V1 (V1 x0 18) ((12 * x1) + x2)) → CT l G bX12_uses d mc1 ms1 [vr x0, vi x1, vi x2] S1 V1 (fun z6 S6 V6 mc6 ms6 => (z6 ≠ (-3) → -2147483648 ≤ 12 * x1 ∧ 12 * x1 ≤ 2147483647 ∧ -2147483648 ≤ (12 * x1) + x2 ∧ (12 * x1) + x2 ≤ 2147483647 ∧ -2147483648 ≤ 3 * ((12 * x1) + x2) ∧ 3 * ((12 * x1) + x2) ≤ 2147483647 ∧ -2147483648 ≤ (3 * ((12 * x1) + x2)) + x3 ∧ (3 * ((12 * x1) + x2)) + x3 ≤ 2147483647 ∧ S6.1 x0 = 13 ∧ S6.1 (V6 x0 34) = 20 ∧ 0 ≤ ((3 * ((12 * x1) + x2)) + x3) ∧ ((3 * ((12 * x1) + x2)) + x3) < S6.2.1 (V6 x0 34) ∧ XJ l G bX12_branch Q d 70 [vr x0, vi x1, vi x2, vi x3, vi x4, vi ((3 * ((12 * x1) + x2)) + x3), vi (V6 (V6 x0 34) ((3 * ((12 * x1) + x2)) + x3)), vi 0] [] S6 V6 mc6 ms6) ∧ (¬ (z6 ≠ (-3)) → Q (-3) S6 V6))) ∧ (¬ (x3 < (V1 (V1 x0 18) ((12 * x1) + x2))) → Q (-1) S1 V1))))) : XJ l G bX12_branch Q d 0 [vr x0, vi x1, vi x2, vi x3, vi x4, vu, vu, vu] [] S V mc ms := by
  refine X_aload_n dX12_branch_0 rfl ?_
  refine X_iload_n dX12_branch_1 rfl ?_
  refine X_iload_n dX12_branch_2 rfl ?_
  refine X_iload dX12_branch_3 rfl ?_
  refine X_invV (ci := 12) (as := [vi x1, vi x2, vi x4]) (st := []) okX12_isConstant dX12_branch_5 km_RX12_451 rfl rfl (Nat.le_of_ble_eq_true rfl) rfl rfl h.1 (CT.imp h.2 (fun z1 S1 V1 mc1 ms1 hc2 => ?_))
  refine X_if_eq dX12_branch_8 (tgt := 30) rfl (fun c3 => ?_) (fun c3 => ?_)
  · refine X_iconst dX12_branch_30 (by decide) ?_
    exact X_ret (z := (-1)) dX12_branch_31 rfl (fun hv => vok_h hv) (hc2.1 c3)
  · refine X_iload_n dX12_branch_11 rfl ?_
    refine X_if_lt dX12_branch_12 (tgt := 30) rfl (fun c4 => ?_) (fun c4 => ?_)
    · refine X_iconst dX12_branch_30 (by decide) ?_
      exact X_ret (z := (-1)) dX12_branch_31 rfl (fun hv => vok_h hv) ((hc2.2 c3).1 c4)
    · refine X_iload_n dX12_branch_15 rfl ?_
      refine X_aload_n dX12_branch_16 rfl ?_
      refine X_getfield (ci := 12) (k := 18) (v := vr (V1 x0 18)) dX12_branch_17 rfl (by decide) kf_RX12_41 rfl ((hc2.2 c3).2 c4).1 ?_
      refine X_bipush dX12_branch_20 (by decide) (by decide) ?_
      refine X_iload_n dX12_branch_22 rfl ?_
      refine X_imulN dX12_branch_23 ((hc2.2 c3).2 c4).2.1 ((hc2.2 c3).2 c4).2.2.1 ?_
      refine X_iload_n dX12_branch_24 rfl ?_
      refine X_iaddN dX12_branch_25 ((hc2.2 c3).2 c4).2.2.2.1 ((hc2.2 c3).2 c4).2.2.2.2.1 ?_
      refine X_iaload dX12_branch_26 ((hc2.2 c3).2 c4).2.2.2.2.2.1 ((hc2.2 c3).2 c4).2.2.2.2.2.2.1 ((hc2.2 c3).2 c4).2.2.2.2.2.2.2.1 ?_
      refine X_icmp_lt dX12_branch_27 (tgt := 32) rfl (fun c5 => ?_) (fun c5 => ?_)
      · refine X_aload_n dX12_branch_32 rfl ?_
        refine X_iload_n dX12_branch_33 rfl ?_
        refine X_iload_n dX12_branch_34 rfl ?_
        refine X_invV (ci := 12) (as := [vi x1, vi x2]) (st := []) okX12_uses dX12_branch_35 km_RX12_455 rfl rfl (Nat.le_of_ble_eq_true rfl) rfl rfl ((hc2.2 c3).2 c4).1 (CT.imp (((hc2.2 c3).2 c4).2.2.2.2.2.2.2.2.1 c5) (fun z6 S6 V6 mc6 ms6 hc7 => ?_))
        refine X_bipush dX12_branch_38 (by decide) (by decide) ?_
        refine X_icmp_ne dX12_branch_40 (tgt := 46) rfl (fun c8 => ?_) (fun c8 => ?_)
        · refine X_iconst dX12_branch_46 (by decide) ?_
          refine X_bipush dX12_branch_47 (by decide) (by decide) ?_
          refine X_iload_n dX12_branch_49 rfl ?_
          refine X_imulN dX12_branch_50 (hc7.1 c8).1 (hc7.1 c8).2.1 ?_
          refine X_iload_n dX12_branch_51 rfl ?_
          refine X_iaddN dX12_branch_52 (hc7.1 c8).2.2.1 (hc7.1 c8).2.2.2.1 ?_
          refine X_imulN dX12_branch_53 (hc7.1 c8).2.2.2.2.1 (hc7.1 c8).2.2.2.2.2.1 ?_
          refine X_iload_n dX12_branch_54 rfl ?_
          refine X_iaddN dX12_branch_55 (hc7.1 c8).2.2.2.2.2.2.1 (hc7.1 c8).2.2.2.2.2.2.2.1 ?_
          refine X_istore dX12_branch_56 (by decide) rfl ?_
          refine X_aload_n dX12_branch_58 rfl ?_
          refine X_getfield (ci := 12) (k := 34) (v := vr (V6 x0 34)) dX12_branch_59 rfl (by decide) kf_RX12_89 rfl (hc7.1 c8).2.2.2.2.2.2.2.2.1 ?_
          refine X_iload dX12_branch_62 rfl ?_
          refine X_iaload dX12_branch_64 (hc7.1 c8).2.2.2.2.2.2.2.2.2.1 (hc7.1 c8).2.2.2.2.2.2.2.2.2.2.1 (hc7.1 c8).2.2.2.2.2.2.2.2.2.2.2.1 ?_
          refine X_istore dX12_branch_65 (by decide) rfl ?_
          refine X_iconst dX12_branch_67 (by decide) ?_
          refine X_istore dX12_branch_68 (by decide) rfl ?_
          exact (hc7.1 c8).2.2.2.2.2.2.2.2.2.2.2.2
        · refine X_bipush dX12_branch_43 (by decide) (by decide) ?_
          exact X_ret (z := (-3)) dX12_branch_45 rfl (fun hv => vok_h hv) (hc7.2 c8)
      · refine X_iconst dX12_branch_30 (by decide) ?_
        exact X_ret (z := (-1)) dX12_branch_31 rfl (fun hv => vok_h hv) (((hc2.2 c3).2 c4).2.2.2.2.2.2.2.2.2 c5)
set_option maxRecDepth 10000 in
theorem vX12_branch_70 {l : Launch} {G : GT} {Q : Int → Sh → Mem → Prop} {d : Nat} {S : Sh} {V : Mem} {mc ms : Nat} {x0 x1 x2 x3 x4 x5 x6 x7 : Int} (h : S.1 x0 = 13 ∧ S.1 (V x0 30) = 20 ∧ 0 ≤ x5 ∧ x5 < S.2.1 (V x0 30) ∧ ((V (V x0 30) x5) ≤ x7 → CT l G bX12_value d mc ms [vr x0, vi x6, vi (-1), vi (-1)] S V (fun z2 S2 V2 mc2 ms2 => S2.1 x0 = 13 ∧ CT l G bX12_ends d mc2 ms2 [vr x0, vi z2] S2 V2 (fun z4 S4 V4 mc4 ms4 => Q z4 S4 V4))) ∧ (¬ ((V (V x0 30) x5) ≤ x7) → -2147483648 ≤ 12 * x5 ∧ 12 * x5 ≤ 2147483647 ∧ -2147483648 ≤ (12 * x5) + x7 ∧ (12 * x5) + x7 ≤ 2147483647 ∧ S.1 (V x0 32) = 20 ∧ 0 ≤ ((12 * x5) + x7) ∧ ((12 * x5) + x7) < S.2.1 (V x0 32) ∧ ((V (V x0 32) ((12 * x5) + x7)) ≠ x4 → -2147483648 ≤ x7 + 1 ∧ x7 + 1 ≤ 2147483647 ∧ XJ l G bX12_branch Q d 70 [vr x0, vi x1, vi x2, vi x3, vi x4, vi x5, vi x6, vi (x7 + 1)] [] S V mc ms) ∧ (¬ ((V (V x0 32) ((12 * x5) + x7)) ≠ x4) → S.1 (V x0 33) = 20 ∧ ((12 * x5) + x7) < S.2.1 (V x0 33) ∧ -2147483648 ≤ x7 + 1 ∧ x7 + 1 ≤ 2147483647 ∧ XJ l G bX12_branch Q d 70 [vr x0, vi x1, vi x2, vi x3, vi x4, vi x5, vi (V (V x0 33) ((12 * x5) + x7)), vi (x7 + 1)] [] S V mc ms))) : XJ l G bX12_branch Q d 70 [vr x0, vi x1, vi x2, vi x3, vi x4, vi x5, vi x6, vi x7] [] S V mc ms := by
  refine X_iload dX12_branch_70 rfl ?_
  refine X_aload_n dX12_branch_72 rfl ?_
  refine X_getfield (ci := 12) (k := 30) (v := vr (V x0 30)) dX12_branch_73 rfl (by decide) kf_RX12_77 rfl h.1 ?_
  refine X_iload dX12_branch_76 rfl ?_
  refine X_iaload dX12_branch_78 h.2.1 h.2.2.1 h.2.2.2.1 ?_
  refine X_icmp_ge dX12_branch_79 (tgt := 121) rfl (fun c1 => ?_) (fun c1 => ?_)
  · refine X_aload_n dX12_branch_121 rfl ?_
    refine X_iload dX12_branch_122 rfl ?_
    refine X_iconst dX12_branch_124 (by decide) ?_
    refine X_iconst dX12_branch_125 (by decide) ?_
    refine X_invV (ci := 12) (as := [vi x6, vi (-1), vi (-1)]) (st := []) okX12_value dX12_branch_126 km_RX12_422 rfl rfl (Nat.le_of_ble_eq_true rfl) rfl rfl h.1 (CT.imp (h.2.2.2.2.1 c1) (fun z2 S2 V2 mc2 ms2 hc3 => ?_))
    refine X_istore dX12_branch_129 (by decide) rfl ?_
    refine X_aload_n dX12_branch_131 rfl ?_
    refine X_iload dX12_branch_132 rfl ?_
    refine X_invV (ci := 12) (as := [vi z2]) (st := []) okX12_ends dX12_branch_134 km_RX12_458 rfl rfl (Nat.le_of_ble_eq_true rfl) rfl rfl hc3.1 (CT.imp hc3.2 (fun z4 S4 V4 mc4 ms4 hc5 => ?_))
    exact X_ret (z := z4) dX12_branch_137 rfl (fun hv => vok_h hv) hc5
  · refine X_aload_n dX12_branch_82 rfl ?_
    refine X_getfield (ci := 12) (k := 32) (v := vr (V x0 32)) dX12_branch_83 rfl (by decide) kf_RX12_83 rfl h.1 ?_
    refine X_bipush dX12_branch_86 (by decide) (by decide) ?_
    refine X_iload dX12_branch_88 rfl ?_
    refine X_imulN dX12_branch_90 (h.2.2.2.2.2 c1).1 (h.2.2.2.2.2 c1).2.1 ?_
    refine X_iload dX12_branch_91 rfl ?_
    refine X_iaddN dX12_branch_93 (h.2.2.2.2.2 c1).2.2.1 (h.2.2.2.2.2 c1).2.2.2.1 ?_
    refine X_iaload dX12_branch_94 (h.2.2.2.2.2 c1).2.2.2.2.1 (h.2.2.2.2.2 c1).2.2.2.2.2.1 (h.2.2.2.2.2 c1).2.2.2.2.2.2.1 ?_
    refine X_iload dX12_branch_95 rfl ?_
    refine X_icmp_ne dX12_branch_97 (tgt := 115) rfl (fun c6 => ?_) (fun c6 => ?_)
    · refine X_iincN dX12_branch_115 rfl (by decide) rfl (e := x7 + 1) rfl ((h.2.2.2.2.2 c1).2.2.2.2.2.2.2.1 c6).1 ((h.2.2.2.2.2 c1).2.2.2.2.2.2.2.1 c6).2.1 ?_
      refine X_goto dX12_branch_118 (tgt := 70) rfl ?_
      exact ((h.2.2.2.2.2 c1).2.2.2.2.2.2.2.1 c6).2.2
    · refine X_aload_n dX12_branch_100 rfl ?_
      refine X_getfield (ci := 12) (k := 33) (v := vr (V x0 33)) dX12_branch_101 rfl (by decide) kf_RX12_86 rfl h.1 ?_
      refine X_bipush dX12_branch_104 (by decide) (by decide) ?_
      refine X_iload dX12_branch_106 rfl ?_
      refine X_imulN dX12_branch_108 (h.2.2.2.2.2 c1).1 (h.2.2.2.2.2 c1).2.1 ?_
      refine X_iload dX12_branch_109 rfl ?_
      refine X_iaddN dX12_branch_111 (h.2.2.2.2.2 c1).2.2.1 (h.2.2.2.2.2 c1).2.2.2.1 ?_
      refine X_iaload dX12_branch_112 ((h.2.2.2.2.2 c1).2.2.2.2.2.2.2.2 c6).1 (h.2.2.2.2.2 c1).2.2.2.2.2.1 ((h.2.2.2.2.2 c1).2.2.2.2.2.2.2.2 c6).2.1 ?_
      refine X_istore dX12_branch_113 (by decide) rfl ?_
      refine X_iincN dX12_branch_115 rfl (by decide) rfl (e := x7 + 1) rfl ((h.2.2.2.2.2 c1).2.2.2.2.2.2.2.2 c6).2.2.1 ((h.2.2.2.2.2 c1).2.2.2.2.2.2.2.2 c6).2.2.2.1 ?_
      refine X_goto dX12_branch_118 (tgt := 70) rfl ?_
      exact ((h.2.2.2.2.2 c1).2.2.2.2.2.2.2.2 c6).2.2.2.2
theorem qX12_branch {l : Launch} {G : GT} {Q : Int → Sh → Mem → Prop} {d : Nat} {S : Sh} {V : Mem} {mc ms : Nat} {x0 x1 x2 x3 x4 : Int} (h : 0 ≤ x0 → inI x1 → inI x2 → inI x3 → inI x4 → XJ l G bX12_branch Q d 0 [vr x0, vi x1, vi x2, vi x3, vi x4, vu, vu, vu] [] S V mc ms) : Ct l G bX12_branch Q d mc ms [vr x0, vi x1, vi x2, vi x3, vi x4] S V := Ct.of okX12_branch.1 trivial (Nat.le_of_ble_eq_true rfl) (fun hv => h (hv _ (List.mem_of_getElem? (i := 0) rfl)) (hv _ (List.mem_of_getElem? (i := 1) rfl)) (hv _ (List.mem_of_getElem? (i := 2) rfl)) (hv _ (List.mem_of_getElem? (i := 3) rfl)) (hv _ (List.mem_of_getElem? (i := 4) rfl)))
set_option maxRecDepth 10000 in
theorem vX12_out_0 {l : Launch} {G : GT} {Q : Int → Sh → Mem → Prop} {d : Nat} {S : Sh} {V : Mem} {mc ms : Nat} {x0 : Int} (h : S.1 x0 = 13 ∧ Q (V x0 69) S V) : XJ l G bX12_out Q d 0 [vr x0] [] S V mc ms := by
  refine X_aload_n dX12_out_0 rfl ?_
  refine X_getfield (ci := 12) (k := 69) (v := vi (V x0 69)) dX12_out_1 rfl (by decide) kf_RX12_442 rfl h.1 ?_
  exact X_ret (z := (V x0 69)) dX12_out_4 rfl (fun hv => vok_h hv) h.2
theorem qX12_out {l : Launch} {G : GT} {Q : Int → Sh → Mem → Prop} {d : Nat} {S : Sh} {V : Mem} {mc ms : Nat} {x0 : Int} (h : 0 ≤ x0 → XJ l G bX12_out Q d 0 [vr x0] [] S V mc ms) : Ct l G bX12_out Q d mc ms [vr x0] S V := Ct.of okX12_out.1 trivial (Nat.le_of_ble_eq_true rfl) (fun hv => h (hv _ (List.mem_of_getElem? (i := 0) rfl)))
set_option maxRecDepth 10000 in
theorem vX12_cause_0 {l : Launch} {G : GT} {Q : Int → Sh → Mem → Prop} {d : Nat} {S : Sh} {V : Mem} {mc ms : Nat} {x0 x1 x2 : Int} (h : (x1 < 0 → Q (-1) S V) ∧ (¬ (x1 < 0) → S.1 x0 = 13 ∧ ((V x0 68) ≤ x1 → Q (-1) S V) ∧ (¬ ((V x0 68) ≤ x1) → (x2 < 0 → Q (-1) S V) ∧ (¬ (x2 < 0) → (x2 ≤ 1 → -2147483648 ≤ (V x0 68) - 1 ∧ (V x0 68) - 1 ≤ 2147483647 ∧ -2147483648 ≤ ((V x0 68) - 1) - x1 ∧ ((V x0 68) - 1) - x1 ≤ 2147483647 ∧ (x2 ≠ 0 → S.1 (V x0 67) = 20 ∧ 0 ≤ (((V x0 68) - 1) - x1) ∧ (((V x0 68) - 1) - x1) < S.2.1 (V x0 67) ∧ Q (V (V x0 67) (((V x0 68) - 1) - x1)) S V) ∧ (¬ (x2 ≠ 0) → S.1 (V x0 66) = 20 ∧ 0 ≤ (((V x0 68) - 1) - x1) ∧ (((V x0 68) - 1) - x1) < S.2.1 (V x0 66) ∧ Q (V (V x0 66) (((V x0 68) - 1) - x1)) S V)) ∧ (¬ (x2 ≤ 1) → Q (-1) S V))))) : XJ l G bX12_cause Q d 0 [vr x0, vi x1, vi x2, vu] [] S V mc ms := by
  refine X_iload_n dX12_cause_0 rfl ?_
  refine X_if_lt dX12_cause_1 (tgt := 21) rfl (fun c1 => ?_) (fun c1 => ?_)
  · refine X_iconst dX12_cause_21 (by decide) ?_
    exact X_ret (z := (-1)) dX12_cause_22 rfl (fun hv => vok_h hv) (h.1 c1)
  · refine X_iload_n dX12_cause_4 rfl ?_
    refine X_aload_n dX12_cause_5 rfl ?_
    refine X_getfield (ci := 12) (k := 68) (v := vi (V x0 68)) dX12_cause_6 rfl (by decide) kf_RX12_404 rfl (h.2 c1).1 ?_
    refine X_icmp_ge dX12_cause_9 (tgt := 21) rfl (fun c2 => ?_) (fun c2 => ?_)
    · refine X_iconst dX12_cause_21 (by decide) ?_
      exact X_ret (z := (-1)) dX12_cause_22 rfl (fun hv => vok_h hv) ((h.2 c1).2.1 c2)
    · refine X_iload_n dX12_cause_12 rfl ?_
      refine X_if_lt dX12_cause_13 (tgt := 21) rfl (fun c3 => ?_) (fun c3 => ?_)
      · refine X_iconst dX12_cause_21 (by decide) ?_
        exact X_ret (z := (-1)) dX12_cause_22 rfl (fun hv => vok_h hv) (((h.2 c1).2.2 c2).1 c3)
      · refine X_iload_n dX12_cause_16 rfl ?_
        refine X_iconst dX12_cause_17 (by decide) ?_
        refine X_icmp_le dX12_cause_18 (tgt := 23) rfl (fun c4 => ?_) (fun c4 => ?_)
        · refine X_aload_n dX12_cause_23 rfl ?_
          refine X_getfield (ci := 12) (k := 68) (v := vi (V x0 68)) dX12_cause_24 rfl (by decide) kf_RX12_404 rfl (h.2 c1).1 ?_
          refine X_iconst dX12_cause_27 (by decide) ?_
          refine X_isubN dX12_cause_28 ((((h.2 c1).2.2 c2).2 c3).1 c4).1 ((((h.2 c1).2.2 c2).2 c3).1 c4).2.1 ?_
          refine X_iload_n dX12_cause_29 rfl ?_
          refine X_isubN dX12_cause_30 ((((h.2 c1).2.2 c2).2 c3).1 c4).2.2.1 ((((h.2 c1).2.2 c2).2 c3).1 c4).2.2.2.1 ?_
          refine X_istore_n dX12_cause_31 (by decide) rfl ?_
          refine X_iload_n dX12_cause_32 rfl ?_
          refine X_if_ne dX12_cause_33 (tgt := 45) rfl (fun c5 => ?_) (fun c5 => ?_)
          · refine X_aload_n dX12_cause_45 rfl ?_
            refine X_getfield (ci := 12) (k := 67) (v := vr (V x0 67)) dX12_cause_46 rfl (by decide) kf_RX12_155 rfl (h.2 c1).1 ?_
            refine X_iload_n dX12_cause_49 rfl ?_
            refine X_iaload dX12_cause_50 (((((h.2 c1).2.2 c2).2 c3).1 c4).2.2.2.2.1 c5).1 (((((h.2 c1).2.2 c2).2 c3).1 c4).2.2.2.2.1 c5).2.1 (((((h.2 c1).2.2 c2).2 c3).1 c4).2.2.2.2.1 c5).2.2.1 ?_
            exact X_ret (z := (V (V x0 67) (((V x0 68) - 1) - x1))) dX12_cause_51 rfl (fun hv => vok_h hv) (((((h.2 c1).2.2 c2).2 c3).1 c4).2.2.2.2.1 c5).2.2.2
          · refine X_aload_n dX12_cause_36 rfl ?_
            refine X_getfield (ci := 12) (k := 66) (v := vr (V x0 66)) dX12_cause_37 rfl (by decide) kf_RX12_152 rfl (h.2 c1).1 ?_
            refine X_iload_n dX12_cause_40 rfl ?_
            refine X_iaload dX12_cause_41 (((((h.2 c1).2.2 c2).2 c3).1 c4).2.2.2.2.2 c5).1 (((((h.2 c1).2.2 c2).2 c3).1 c4).2.2.2.2.2 c5).2.1 (((((h.2 c1).2.2 c2).2 c3).1 c4).2.2.2.2.2 c5).2.2.1 ?_
            refine X_goto dX12_cause_42 (tgt := 51) rfl ?_
            exact X_ret (z := (V (V x0 66) (((V x0 68) - 1) - x1))) dX12_cause_51 rfl (fun hv => vok_h hv) (((((h.2 c1).2.2 c2).2 c3).1 c4).2.2.2.2.2 c5).2.2.2
        · refine X_iconst dX12_cause_21 (by decide) ?_
          exact X_ret (z := (-1)) dX12_cause_22 rfl (fun hv => vok_h hv) ((((h.2 c1).2.2 c2).2 c3).2 c4)
theorem qX12_cause {l : Launch} {G : GT} {Q : Int → Sh → Mem → Prop} {d : Nat} {S : Sh} {V : Mem} {mc ms : Nat} {x0 x1 x2 : Int} (h : 0 ≤ x0 → inI x1 → inI x2 → XJ l G bX12_cause Q d 0 [vr x0, vi x1, vi x2, vu] [] S V mc ms) : Ct l G bX12_cause Q d mc ms [vr x0, vi x1, vi x2] S V := Ct.of okX12_cause.1 trivial (Nat.le_of_ble_eq_true rfl) (fun hv => h (hv _ (List.mem_of_getElem? (i := 0) rfl)) (hv _ (List.mem_of_getElem? (i := 1) rfl)) (hv _ (List.mem_of_getElem? (i := 2) rfl)))
set_option maxRecDepth 10000 in
theorem vX12_start_0 {l : Launch} {G : GT} {Q : Int → Sh → Mem → Prop} {d : Nat} {S : Sh} {V : Mem} {mc ms : Nat} {x0 x1 x2 : Int} (h : (x1 < 0 → Q (-1) S V) ∧ (¬ (x1 < 0) → S.1 x0 = 13 ∧ ((V x0 8) ≤ x1 → Q (-1) S V) ∧ (¬ ((V x0 8) ≤ x1) → (x2 < 0 → Q (-1) S V) ∧ (¬ (x2 < 0) → S.1 (V x0 59) = 20 ∧ 0 ≤ x1 ∧ x1 < S.2.1 (V x0 59) ∧ ((V (V x0 59) x1) ≤ x2 → Q (-1) S V) ∧ (¬ ((V (V x0 59) x1) ≤ x2) → -2147483648 ≤ 160 * x1 ∧ 160 * x1 ≤ 2147483647 ∧ -2147483648 ≤ (160 * x1) + x2 ∧ (160 * x1) + x2 ≤ 2147483647 ∧ S.1 (V x0 58) = 20 ∧ 0 ≤ ((160 * x1) + x2) ∧ ((160 * x1) + x2) < S.2.1 (V x0 58) ∧ Q (V (V x0 58) ((160 * x1) + x2)) S V))))) : XJ l G bX12_start Q d 0 [vr x0, vi x1, vi x2] [] S V mc ms := by
  refine X_iload_n dX12_start_0 rfl ?_
  refine X_if_lt dX12_start_1 (tgt := 41) rfl (fun c1 => ?_) (fun c1 => ?_)
  · refine X_iconst dX12_start_41 (by decide) ?_
    exact X_ret (z := (-1)) dX12_start_42 rfl (fun hv => vok_h hv) (h.1 c1)
  · refine X_iload_n dX12_start_4 rfl ?_
    refine X_aload_n dX12_start_5 rfl ?_
    refine X_getfield (ci := 12) (k := 8) (v := vi (V x0 8)) dX12_start_6 rfl (by decide) kf_RX12_392 rfl (h.2 c1).1 ?_
    refine X_icmp_ge dX12_start_9 (tgt := 41) rfl (fun c2 => ?_) (fun c2 => ?_)
    · refine X_iconst dX12_start_41 (by decide) ?_
      exact X_ret (z := (-1)) dX12_start_42 rfl (fun hv => vok_h hv) ((h.2 c1).2.1 c2)
    · refine X_iload_n dX12_start_12 rfl ?_
      refine X_if_lt dX12_start_13 (tgt := 41) rfl (fun c3 => ?_) (fun c3 => ?_)
      · refine X_iconst dX12_start_41 (by decide) ?_
        exact X_ret (z := (-1)) dX12_start_42 rfl (fun hv => vok_h hv) (((h.2 c1).2.2 c2).1 c3)
      · refine X_iload_n dX12_start_16 rfl ?_
        refine X_aload_n dX12_start_17 rfl ?_
        refine X_getfield (ci := 12) (k := 59) (v := vr (V x0 59)) dX12_start_18 rfl (by decide) kf_RX12_137 rfl (h.2 c1).1 ?_
        refine X_iload_n dX12_start_21 rfl ?_
        refine X_iaload dX12_start_22 (((h.2 c1).2.2 c2).2 c3).1 (((h.2 c1).2.2 c2).2 c3).2.1 (((h.2 c1).2.2 c2).2 c3).2.2.1 ?_
        refine X_icmp_ge dX12_start_23 (tgt := 41) rfl (fun c4 => ?_) (fun c4 => ?_)
        · refine X_iconst dX12_start_41 (by decide) ?_
          exact X_ret (z := (-1)) dX12_start_42 rfl (fun hv => vok_h hv) ((((h.2 c1).2.2 c2).2 c3).2.2.2.1 c4)
        · refine X_aload_n dX12_start_26 rfl ?_
          refine X_getfield (ci := 12) (k := 58) (v := vr (V x0 58)) dX12_start_27 rfl (by decide) kf_RX12_134 rfl (h.2 c1).1 ?_
          refine X_sipush dX12_start_30 (by decide) (by decide) ?_
          refine X_iload_n dX12_start_33 rfl ?_
          refine X_imulN dX12_start_34 ((((h.2 c1).2.2 c2).2 c3).2.2.2.2 c4).1 ((((h.2 c1).2.2 c2).2 c3).2.2.2.2 c4).2.1 ?_
          refine X_iload_n dX12_start_35 rfl ?_
          refine X_iaddN dX12_start_36 ((((h.2 c1).2.2 c2).2 c3).2.2.2.2 c4).2.2.1 ((((h.2 c1).2.2 c2).2 c3).2.2.2.2 c4).2.2.2.1 ?_
          refine X_iaload dX12_start_37 ((((h.2 c1).2.2 c2).2 c3).2.2.2.2 c4).2.2.2.2.1 ((((h.2 c1).2.2 c2).2 c3).2.2.2.2 c4).2.2.2.2.2.1 ((((h.2 c1).2.2 c2).2 c3).2.2.2.2 c4).2.2.2.2.2.2.1 ?_
          refine X_goto dX12_start_38 (tgt := 42) rfl ?_
          exact X_ret (z := (V (V x0 58) ((160 * x1) + x2))) dX12_start_42 rfl (fun hv => vok_h hv) ((((h.2 c1).2.2 c2).2 c3).2.2.2.2 c4).2.2.2.2.2.2.2
theorem qX12_start {l : Launch} {G : GT} {Q : Int → Sh → Mem → Prop} {d : Nat} {S : Sh} {V : Mem} {mc ms : Nat} {x0 x1 x2 : Int} (h : 0 ≤ x0 → inI x1 → inI x2 → XJ l G bX12_start Q d 0 [vr x0, vi x1, vi x2] [] S V mc ms) : Ct l G bX12_start Q d mc ms [vr x0, vi x1, vi x2] S V := Ct.of okX12_start.1 trivial (Nat.le_of_ble_eq_true rfl) (fun hv => h (hv _ (List.mem_of_getElem? (i := 0) rfl)) (hv _ (List.mem_of_getElem? (i := 1) rfl)) (hv _ (List.mem_of_getElem? (i := 2) rfl)))
set_option maxRecDepth 10000 in
theorem vX12_seen_0 {l : Launch} {G : GT} {Q : Int → Sh → Mem → Prop} {d : Nat} {S : Sh} {V : Mem} {mc ms : Nat} {x0 x1 x2 x3 : Int} (h : (x1 < 0 → Q (-1) S V) ∧ (¬ (x1 < 0) → S.1 x0 = 13 ∧ ((V x0 8) ≤ x1 → Q (-1) S V) ∧ (¬ ((V x0 8) ≤ x1) → (x2 < 0 → Q (-1) S V) ∧ (¬ (x2 < 0) → S.1 (V x0 62) = 20 ∧ 0 ≤ x1 ∧ x1 < S.2.1 (V x0 62) ∧ ((V (V x0 62) x1) ≤ x2 → Q (-1) S V) ∧ (¬ ((V (V x0 62) x1) ≤ x2) → (x3 < 0 → Q (-1) S V) ∧ (¬ (x3 < 0) → (x3 ≤ 1 → (x3 ≠ 0 → -2147483648 ≤ 3100 * x1 ∧ 3100 * x1 ≤ 2147483647 ∧ -2147483648 ≤ (3100 * x1) + x2 ∧ (3100 * x1) + x2 ≤ 2147483647 ∧ S.1 (V x0 61) = 20 ∧ 0 ≤ ((3100 * x1) + x2) ∧ ((3100 * x1) + x2) < S.2.1 (V x0 61) ∧ Q (V (V x0 61) ((3100 * x1) + x2)) S V) ∧ (¬ (x3 ≠ 0) → -2147483648 ≤ 3100 * x1 ∧ 3100 * x1 ≤ 2147483647 ∧ -2147483648 ≤ (3100 * x1) + x2 ∧ (3100 * x1) + x2 ≤ 2147483647 ∧ S.1 (V x0 60) = 20 ∧ 0 ≤ ((3100 * x1) + x2) ∧ ((3100 * x1) + x2) < S.2.1 (V x0 60) ∧ Q (V (V x0 60) ((3100 * x1) + x2)) S V)) ∧ (¬ (x3 ≤ 1) → Q (-1) S V))))))) : XJ l G bX12_seen Q d 0 [vr x0, vi x1, vi x2, vi x3] [] S V mc ms := by
  refine X_iload_n dX12_seen_0 rfl ?_
  refine X_if_lt dX12_seen_1 (tgt := 35) rfl (fun c1 => ?_) (fun c1 => ?_)
  · refine X_iconst dX12_seen_35 (by decide) ?_
    exact X_ret (z := (-1)) dX12_seen_36 rfl (fun hv => vok_h hv) (h.1 c1)
  · refine X_iload_n dX12_seen_4 rfl ?_
    refine X_aload_n dX12_seen_5 rfl ?_
    refine X_getfield (ci := 12) (k := 8) (v := vi (V x0 8)) dX12_seen_6 rfl (by decide) kf_RX12_392 rfl (h.2 c1).1 ?_
    refine X_icmp_ge dX12_seen_9 (tgt := 35) rfl (fun c2 => ?_) (fun c2 => ?_)
    · refine X_iconst dX12_seen_35 (by decide) ?_
      exact X_ret (z := (-1)) dX12_seen_36 rfl (fun hv => vok_h hv) ((h.2 c1).2.1 c2)
    · refine X_iload_n dX12_seen_12 rfl ?_
      refine X_if_lt dX12_seen_13 (tgt := 35) rfl (fun c3 => ?_) (fun c3 => ?_)
      · refine X_iconst dX12_seen_35 (by decide) ?_
        exact X_ret (z := (-1)) dX12_seen_36 rfl (fun hv => vok_h hv) (((h.2 c1).2.2 c2).1 c3)
      · refine X_iload_n dX12_seen_16 rfl ?_
        refine X_aload_n dX12_seen_17 rfl ?_
        refine X_getfield (ci := 12) (k := 62) (v := vr (V x0 62)) dX12_seen_18 rfl (by decide) kf_RX12_146 rfl (h.2 c1).1 ?_
        refine X_iload_n dX12_seen_21 rfl ?_
        refine X_iaload dX12_seen_22 (((h.2 c1).2.2 c2).2 c3).1 (((h.2 c1).2.2 c2).2 c3).2.1 (((h.2 c1).2.2 c2).2 c3).2.2.1 ?_
        refine X_icmp_ge dX12_seen_23 (tgt := 35) rfl (fun c4 => ?_) (fun c4 => ?_)
        · refine X_iconst dX12_seen_35 (by decide) ?_
          exact X_ret (z := (-1)) dX12_seen_36 rfl (fun hv => vok_h hv) ((((h.2 c1).2.2 c2).2 c3).2.2.2.1 c4)
        · refine X_iload_n dX12_seen_26 rfl ?_
          refine X_if_lt dX12_seen_27 (tgt := 35) rfl (fun c5 => ?_) (fun c5 => ?_)
          · refine X_iconst dX12_seen_35 (by decide) ?_
            exact X_ret (z := (-1)) dX12_seen_36 rfl (fun hv => vok_h hv) (((((h.2 c1).2.2 c2).2 c3).2.2.2.2 c4).1 c5)
          · refine X_iload_n dX12_seen_30 rfl ?_
            refine X_iconst dX12_seen_31 (by decide) ?_
            refine X_icmp_le dX12_seen_32 (tgt := 37) rfl (fun c6 => ?_) (fun c6 => ?_)
            · refine X_iload_n dX12_seen_37 rfl ?_
              refine X_if_ne dX12_seen_38 (tgt := 56) rfl (fun c7 => ?_) (fun c7 => ?_)
              · refine X_aload_n dX12_seen_56 rfl ?_
                refine X_getfield (ci := 12) (k := 61) (v := vr (V x0 61)) dX12_seen_57 rfl (by decide) kf_RX12_143 rfl (h.2 c1).1 ?_
                refine X_sipush dX12_seen_60 (by decide) (by decide) ?_
                refine X_iload_n dX12_seen_63 rfl ?_
                refine X_imulN dX12_seen_64 (((((((h.2 c1).2.2 c2).2 c3).2.2.2.2 c4).2 c5).1 c6).1 c7).1 (((((((h.2 c1).2.2 c2).2 c3).2.2.2.2 c4).2 c5).1 c6).1 c7).2.1 ?_
                refine X_iload_n dX12_seen_65 rfl ?_
                refine X_iaddN dX12_seen_66 (((((((h.2 c1).2.2 c2).2 c3).2.2.2.2 c4).2 c5).1 c6).1 c7).2.2.1 (((((((h.2 c1).2.2 c2).2 c3).2.2.2.2 c4).2 c5).1 c6).1 c7).2.2.2.1 ?_
                refine X_iaload dX12_seen_67 (((((((h.2 c1).2.2 c2).2 c3).2.2.2.2 c4).2 c5).1 c6).1 c7).2.2.2.2.1 (((((((h.2 c1).2.2 c2).2 c3).2.2.2.2 c4).2 c5).1 c6).1 c7).2.2.2.2.2.1 (((((((h.2 c1).2.2 c2).2 c3).2.2.2.2 c4).2 c5).1 c6).1 c7).2.2.2.2.2.2.1 ?_
                exact X_ret (z := (V (V x0 61) ((3100 * x1) + x2))) dX12_seen_68 rfl (fun hv => vok_h hv) (((((((h.2 c1).2.2 c2).2 c3).2.2.2.2 c4).2 c5).1 c6).1 c7).2.2.2.2.2.2.2
              · refine X_aload_n dX12_seen_41 rfl ?_
                refine X_getfield (ci := 12) (k := 60) (v := vr (V x0 60)) dX12_seen_42 rfl (by decide) kf_RX12_140 rfl (h.2 c1).1 ?_
                refine X_sipush dX12_seen_45 (by decide) (by decide) ?_
                refine X_iload_n dX12_seen_48 rfl ?_
                refine X_imulN dX12_seen_49 (((((((h.2 c1).2.2 c2).2 c3).2.2.2.2 c4).2 c5).1 c6).2 c7).1 (((((((h.2 c1).2.2 c2).2 c3).2.2.2.2 c4).2 c5).1 c6).2 c7).2.1 ?_
                refine X_iload_n dX12_seen_50 rfl ?_
                refine X_iaddN dX12_seen_51 (((((((h.2 c1).2.2 c2).2 c3).2.2.2.2 c4).2 c5).1 c6).2 c7).2.2.1 (((((((h.2 c1).2.2 c2).2 c3).2.2.2.2 c4).2 c5).1 c6).2 c7).2.2.2.1 ?_
                refine X_iaload dX12_seen_52 (((((((h.2 c1).2.2 c2).2 c3).2.2.2.2 c4).2 c5).1 c6).2 c7).2.2.2.2.1 (((((((h.2 c1).2.2 c2).2 c3).2.2.2.2 c4).2 c5).1 c6).2 c7).2.2.2.2.2.1 (((((((h.2 c1).2.2 c2).2 c3).2.2.2.2 c4).2 c5).1 c6).2 c7).2.2.2.2.2.2.1 ?_
                refine X_goto dX12_seen_53 (tgt := 68) rfl ?_
                exact X_ret (z := (V (V x0 60) ((3100 * x1) + x2))) dX12_seen_68 rfl (fun hv => vok_h hv) (((((((h.2 c1).2.2 c2).2 c3).2.2.2.2 c4).2 c5).1 c6).2 c7).2.2.2.2.2.2.2
            · refine X_iconst dX12_seen_35 (by decide) ?_
              exact X_ret (z := (-1)) dX12_seen_36 rfl (fun hv => vok_h hv) ((((((h.2 c1).2.2 c2).2 c3).2.2.2.2 c4).2 c5).2 c6)
theorem qX12_seen {l : Launch} {G : GT} {Q : Int → Sh → Mem → Prop} {d : Nat} {S : Sh} {V : Mem} {mc ms : Nat} {x0 x1 x2 x3 : Int} (h : 0 ≤ x0 → inI x1 → inI x2 → inI x3 → XJ l G bX12_seen Q d 0 [vr x0, vi x1, vi x2, vi x3] [] S V mc ms) : Ct l G bX12_seen Q d mc ms [vr x0, vi x1, vi x2, vi x3] S V := Ct.of okX12_seen.1 trivial (Nat.le_of_ble_eq_true rfl) (fun hv => h (hv _ (List.mem_of_getElem? (i := 0) rfl)) (hv _ (List.mem_of_getElem? (i := 1) rfl)) (hv _ (List.mem_of_getElem? (i := 2) rfl)) (hv _ (List.mem_of_getElem? (i := 3) rfl)))
set_option maxRecDepth 10000 in
theorem vX12_set_0 {l : Launch} {G : GT} {Q : Int → Sh → Mem → Prop} {d : Nat} {S : Sh} {V : Mem} {mc ms : Nat} {x0 x1 x2 : Int} (h : S.1 x0 = 13 ∧ CT l G bX12_isEnum d mc ms [vr x0, vi x1, vi x2] S V (fun z1 S1 V1 mc1 ms1 => (z1 ≠ 0 → S1.1 x0 = 13 ∧ ((V1 x0 72) ≠ 40 → CT l G bX12_uses d mc1 ms1 [vr x0, vi x1, vi x2] S1 V1 (fun z5 S5 V5 mc5 ms5 => (z5 ≠ (-3) → S5.1 x0 = 13 ∧ -2147483648 ≤ 12 * x1 ∧ 12 * x1 ≤ 2147483647 ∧ -2147483648 ≤ (12 * x1) + x2 ∧ (12 * x1) + x2 ≤ 2147483647 ∧ S5.1 (V5 x0 70) = 20 ∧ 0 ≤ (V5 x0 72) ∧ (V5 x0 72) < S5.2.1 (V5 x0 70) ∧ S5.1 (V5 x0 71) = 20 ∧ (V5 x0 72) < S5.2.1 (V5 x0 71) ∧ -2147483648 ≤ (V5 x0 72) + 1 ∧ (V5 x0 72) + 1 ≤ 2147483647 ∧ -2147483648 ≤ ((V5 x0 72) + 1) - 1 ∧ ((V5 x0 72) + 1) - 1 ≤ 2147483647 ∧ Q (((V5 x0 72) + 1) - 1) S5 (up (up (up V5 (V5 x0 70) (V5 x0 72) ((12 * x1) + x2)) (V5 x0 71) (V5 x0 72) 0) x0 72 ((V5 x0 72) + 1))) ∧ (¬ (z5 ≠ (-3)) → Q (-3) S5 V5))) ∧ (¬ ((V1 x0 72) ≠ 40) → Q (-2) S1 V1)) ∧ (¬ (z1 ≠ 0) → Q (-1) S1 V1))) : XJ l G bX12_set Q d 0 [vr x0, vi x1, vi x2] [] S V mc ms := by
  refine X_aload_n dX12_set_0 rfl ?_
  refine X_iload_n dX12_set_1 rfl ?_
  refine X_iload_n dX12_set_2 rfl ?_
  refine X_invV (ci := 12) (as := [vi x1, vi x2]) (st := []) okX12_isEnum dX12_set_3 km_RX12_439 rfl rfl (Nat.le_of_ble_eq_true rfl) rfl rfl h.1 (CT.imp h.2 (fun z1 S1 V1 mc1 ms1 hc2 => ?_))
  refine X_if_ne dX12_set_6 (tgt := 11) rfl (fun c3 => ?_) (fun c3 => ?_)
  · refine X_aload_n dX12_set_11 rfl ?_
    refine X_getfield (ci := 12) (k := 72) (v := vi (V1 x0 72)) dX12_set_12 rfl (by decide) kf_RX12_461 rfl (hc2.1 c3).1 ?_
    refine X_bipush dX12_set_15 (by decide) (by decide) ?_
    refine X_icmp_ne dX12_set_17 (tgt := 23) rfl (fun c4 => ?_) (fun c4 => ?_)
    · refine X_aload_n dX12_set_23 rfl ?_
      refine X_iload_n dX12_set_24 rfl ?_
      refine X_iload_n dX12_set_25 rfl ?_
      refine X_invV (ci := 12) (as := [vi x1, vi x2]) (st := []) okX12_uses dX12_set_26 km_RX12_455 rfl rfl (Nat.le_of_ble_eq_true rfl) rfl rfl (hc2.1 c3).1 (CT.imp ((hc2.1 c3).2.1 c4) (fun z5 S5 V5 mc5 ms5 hc6 => ?_))
      refine X_bipush dX12_set_29 (by decide) (by decide) ?_
      refine X_icmp_ne dX12_set_31 (tgt := 37) rfl (fun c7 => ?_) (fun c7 => ?_)
      · refine X_aload_n dX12_set_37 rfl ?_
        refine X_getfield (ci := 12) (k := 70) (v := vr (V5 x0 70)) dX12_set_38 rfl (by decide) kf_RX12_158 rfl (hc6.1 c7).1 ?_
        refine X_aload_n dX12_set_41 rfl ?_
        refine X_getfield (ci := 12) (k := 72) (v := vi (V5 x0 72)) dX12_set_42 rfl (by decide) kf_RX12_461 rfl (hc6.1 c7).1 ?_
        refine X_bipush dX12_set_45 (by decide) (by decide) ?_
        refine X_iload_n dX12_set_47 rfl ?_
        refine X_imulN dX12_set_48 (hc6.1 c7).2.1 (hc6.1 c7).2.2.1 ?_
        refine X_iload_n dX12_set_49 rfl ?_
        refine X_iaddN dX12_set_50 (hc6.1 c7).2.2.2.1 (hc6.1 c7).2.2.2.2.1 ?_
        refine X_iastore dX12_set_51 (hc6.1 c7).2.2.2.2.2.1 (hc6.1 c7).2.2.2.2.2.2.1 (hc6.1 c7).2.2.2.2.2.2.2.1 ?_
        refine X_aload_n dX12_set_52 rfl ?_
        refine X_getfield (ci := 12) (k := 71) (v := vr (V5 x0 71)) dX12_set_53 rfl (by decide) kf_RX12_161 (congrArg vr (up_ne (Or.inl (tag_ne (hc6.1 c7).1 (hc6.1 c7).2.2.2.2.2.1 (by decide))))) (hc6.1 c7).1 ?_
        refine X_aload_n dX12_set_56 rfl ?_
        refine X_getfield (ci := 12) (k := 72) (v := vi (V5 x0 72)) dX12_set_57 rfl (by decide) kf_RX12_461 (congrArg vi (up_ne (Or.inl (tag_ne (hc6.1 c7).1 (hc6.1 c7).2.2.2.2.2.1 (by decide))))) (hc6.1 c7).1 ?_
        refine X_iconst dX12_set_60 (by decide) ?_
        refine X_iastore dX12_set_61 (hc6.1 c7).2.2.2.2.2.2.2.2.1 (hc6.1 c7).2.2.2.2.2.2.1 (hc6.1 c7).2.2.2.2.2.2.2.2.2.1 ?_
        refine X_aload_n dX12_set_62 rfl ?_
        refine X_dup dX12_set_63 (rv_cat _) ?_
        refine X_getfield (ci := 12) (k := 72) (v := vi (V5 x0 72)) dX12_set_64 rfl (by decide) kf_RX12_461 (congrArg vi ((up_ne (Or.inl (tag_ne (hc6.1 c7).1 (hc6.1 c7).2.2.2.2.2.2.2.2.1 (by decide)))).trans (up_ne (Or.inl (tag_ne (hc6.1 c7).1 (hc6.1 c7).2.2.2.2.2.1 (by decide)))))) (hc6.1 c7).1 ?_
        refine X_iconst dX12_set_67 (by decide) ?_
        refine X_iaddN dX12_set_68 (hc6.1 c7).2.2.2.2.2.2.2.2.2.2.1 (hc6.1 c7).2.2.2.2.2.2.2.2.2.2.2.1 ?_
        refine X_putfield (ci := 12) (k := 72) (z := ((V5 x0 72) + 1)) dX12_set_69 rfl (by decide) kf_RX12_461 (Or.inl rfl) (Or.inl rfl) rfl (fun hv => hv) (hc6.1 c7).1 ?_
        refine X_aload_n dX12_set_72 rfl ?_
        refine X_getfield (ci := 12) (k := 72) (v := vi ((V5 x0 72) + 1)) dX12_set_73 rfl (by decide) kf_RX12_461 (congrArg vi up_eq) (hc6.1 c7).1 ?_
        refine X_iconst dX12_set_76 (by decide) ?_
        refine X_isubN dX12_set_77 (hc6.1 c7).2.2.2.2.2.2.2.2.2.2.2.2.1 (hc6.1 c7).2.2.2.2.2.2.2.2.2.2.2.2.2.1 ?_
        exact X_ret (z := (((V5 x0 72) + 1) - 1)) dX12_set_78 rfl (fun hv => vok_h hv) (hc6.1 c7).2.2.2.2.2.2.2.2.2.2.2.2.2.2
      · refine X_bipush dX12_set_34 (by decide) (by decide) ?_
        exact X_ret (z := (-3)) dX12_set_36 rfl (fun hv => vok_h hv) (hc6.2 c7)
    · refine X_bipush dX12_set_20 (by decide) (by decide) ?_
      exact X_ret (z := (-2)) dX12_set_22 rfl (fun hv => vok_h hv) ((hc2.1 c3).2.2 c4)
  · refine X_iconst dX12_set_9 (by decide) ?_
    exact X_ret (z := (-1)) dX12_set_10 rfl (fun hv => vok_h hv) (hc2.2 c3)
theorem qX12_set {l : Launch} {G : GT} {Q : Int → Sh → Mem → Prop} {d : Nat} {S : Sh} {V : Mem} {mc ms : Nat} {x0 x1 x2 : Int} (h : 0 ≤ x0 → inI x1 → inI x2 → XJ l G bX12_set Q d 0 [vr x0, vi x1, vi x2] [] S V mc ms) : Ct l G bX12_set Q d mc ms [vr x0, vi x1, vi x2] S V := Ct.of okX12_set.1 trivial (Nat.le_of_ble_eq_true rfl) (fun hv => h (hv _ (List.mem_of_getElem? (i := 0) rfl)) (hv _ (List.mem_of_getElem? (i := 1) rfl)) (hv _ (List.mem_of_getElem? (i := 2) rfl)))
set_option maxRecDepth 10000 in
theorem vX12_isIn_0 {l : Launch} {G : GT} {Q : Int → Sh → Mem → Prop} {d : Nat} {S : Sh} {V : Mem} {mc ms : Nat} {x0 x1 x2 : Int} (h : (x1 < 0 → Q 0 S V) ∧ (¬ (x1 < 0) → S.1 x0 = 13 ∧ ((V x0 72) ≤ x1 → Q 0 S V) ∧ (¬ ((V x0 72) ≤ x1) → (x2 < 0 → Q 0 S V) ∧ (¬ (x2 < 0) → S.1 (V x0 70) = 20 ∧ 0 ≤ x1 ∧ x1 < S.2.1 (V x0 70) ∧ S.1 (V x0 14) = 20 ∧ 0 ≤ (V (V x0 70) x1) ∧ (V (V x0 70) x1) < S.2.1 (V x0 14) ∧ ((V (V x0 14) (V (V x0 70) x1)) ≤ x2 → Q 0 S V) ∧ (¬ ((V (V x0 14) (V (V x0 70) x1)) ≤ x2) → Q 1 S V))))) : XJ l G bX12_isIn Q d 0 [vr x0, vi x1, vi x2] [] S V mc ms := by
  refine X_iload_n dX12_isIn_0 rfl ?_
  refine X_if_lt dX12_isIn_1 (tgt := 35) rfl (fun c1 => ?_) (fun c1 => ?_)
  · refine X_iconst dX12_isIn_35 (by decide) ?_
    exact X_ret (z := 0) dX12_isIn_36 rfl (fun _ => Or.inl rfl) (h.1 c1)
  · refine X_iload_n dX12_isIn_4 rfl ?_
    refine X_aload_n dX12_isIn_5 rfl ?_
    refine X_getfield (ci := 12) (k := 72) (v := vi (V x0 72)) dX12_isIn_6 rfl (by decide) kf_RX12_461 rfl (h.2 c1).1 ?_
    refine X_icmp_ge dX12_isIn_9 (tgt := 35) rfl (fun c2 => ?_) (fun c2 => ?_)
    · refine X_iconst dX12_isIn_35 (by decide) ?_
      exact X_ret (z := 0) dX12_isIn_36 rfl (fun _ => Or.inl rfl) ((h.2 c1).2.1 c2)
    · refine X_iload_n dX12_isIn_12 rfl ?_
      refine X_if_lt dX12_isIn_13 (tgt := 35) rfl (fun c3 => ?_) (fun c3 => ?_)
      · refine X_iconst dX12_isIn_35 (by decide) ?_
        exact X_ret (z := 0) dX12_isIn_36 rfl (fun _ => Or.inl rfl) (((h.2 c1).2.2 c2).1 c3)
      · refine X_iload_n dX12_isIn_16 rfl ?_
        refine X_aload_n dX12_isIn_17 rfl ?_
        refine X_getfield (ci := 12) (k := 14) (v := vr (V x0 14)) dX12_isIn_18 rfl (by decide) kf_RX12_29 rfl (h.2 c1).1 ?_
        refine X_aload_n dX12_isIn_21 rfl ?_
        refine X_getfield (ci := 12) (k := 70) (v := vr (V x0 70)) dX12_isIn_22 rfl (by decide) kf_RX12_158 rfl (h.2 c1).1 ?_
        refine X_iload_n dX12_isIn_25 rfl ?_
        refine X_iaload dX12_isIn_26 (((h.2 c1).2.2 c2).2 c3).1 (((h.2 c1).2.2 c2).2 c3).2.1 (((h.2 c1).2.2 c2).2 c3).2.2.1 ?_
        refine X_iaload dX12_isIn_27 (((h.2 c1).2.2 c2).2 c3).2.2.2.1 (((h.2 c1).2.2 c2).2 c3).2.2.2.2.1 (((h.2 c1).2.2 c2).2 c3).2.2.2.2.2.1 ?_
        refine X_icmp_ge dX12_isIn_28 (tgt := 35) rfl (fun c4 => ?_) (fun c4 => ?_)
        · refine X_iconst dX12_isIn_35 (by decide) ?_
          exact X_ret (z := 0) dX12_isIn_36 rfl (fun _ => Or.inl rfl) ((((h.2 c1).2.2 c2).2 c3).2.2.2.2.2.2.1 c4)
        · refine X_iconst dX12_isIn_31 (by decide) ?_
          refine X_goto dX12_isIn_32 (tgt := 36) rfl ?_
          exact X_ret (z := 1) dX12_isIn_36 rfl (fun _ => Or.inr rfl) ((((h.2 c1).2.2 c2).2 c3).2.2.2.2.2.2.2 c4)
theorem qX12_isIn {l : Launch} {G : GT} {Q : Int → Sh → Mem → Prop} {d : Nat} {S : Sh} {V : Mem} {mc ms : Nat} {x0 x1 x2 : Int} (h : 0 ≤ x0 → inI x1 → inI x2 → XJ l G bX12_isIn Q d 0 [vr x0, vi x1, vi x2] [] S V mc ms) : Ct l G bX12_isIn Q d mc ms [vr x0, vi x1, vi x2] S V := Ct.of okX12_isIn.1 trivial (Nat.le_of_ble_eq_true rfl) (fun hv => h (hv _ (List.mem_of_getElem? (i := 0) rfl)) (hv _ (List.mem_of_getElem? (i := 1) rfl)) (hv _ (List.mem_of_getElem? (i := 2) rfl)))
set_option maxRecDepth 10000 in
theorem vX12_add_0 {l : Launch} {G : GT} {Q : Int → Sh → Mem → Prop} {d : Nat} {S : Sh} {V : Mem} {mc ms : Nat} {x0 x1 x2 : Int} (h : S.1 x0 = 13 ∧ CT l G bX12_isIn d mc ms [vr x0, vi x1, vi x2] S V (fun z1 S1 V1 mc1 ms1 => (z1 ≠ 0 → S1.1 x0 = 13 ∧ S1.1 (V1 x0 71) = 20 ∧ 0 ≤ x1 ∧ x1 < S1.2.1 (V1 x0 71) ∧ -2147483648 ≤ 1 - (bAnd (bShr (V1 (V1 x0 71) x1) x2) 1) ∧ 1 - (bAnd (bShr (V1 (V1 x0 71) x1) x2) 1) ≤ 2147483647 ∧ Q (1 - (bAnd (bShr (V1 (V1 x0 71) x1) x2) 1)) S1 (up V1 (V1 x0 71) x1 (bOr (V1 (V1 x0 71) x1) (bShl 1 x2)))) ∧ (¬ (z1 ≠ 0) → Q (-1) S1 V1))) : XJ l G bX12_add Q d 0 [vr x0, vi x1, vi x2, vu] [] S V mc ms := by
  refine X_aload_n dX12_add_0 rfl ?_
  refine X_iload_n dX12_add_1 rfl ?_
  refine X_iload_n dX12_add_2 rfl ?_
  refine X_invV (ci := 12) (as := [vi x1, vi x2]) (st := []) okX12_isIn dX12_add_3 km_RX12_464 rfl rfl (Nat.le_of_ble_eq_true rfl) rfl rfl h.1 (CT.imp h.2 (fun z1 S1 V1 mc1 ms1 hc2 => ?_))
  refine X_if_ne dX12_add_6 (tgt := 11) rfl (fun c3 => ?_) (fun c3 => ?_)
  · refine X_aload_n dX12_add_11 rfl ?_
    refine X_getfield (ci := 12) (k := 71) (v := vr (V1 x0 71)) dX12_add_12 rfl (by decide) kf_RX12_161 rfl (hc2.1 c3).1 ?_
    refine X_iload_n dX12_add_15 rfl ?_
    refine X_iaload dX12_add_16 (hc2.1 c3).2.1 (hc2.1 c3).2.2.1 (hc2.1 c3).2.2.2.1 ?_
    refine X_iload_n dX12_add_17 rfl ?_
    refine X_ishr dX12_add_18 ?_
    refine X_iconst dX12_add_19 (by decide) ?_
    refine X_iand dX12_add_20 ?_
    refine X_istore_n dX12_add_21 (by decide) rfl ?_
    refine X_aload_n dX12_add_22 rfl ?_
    refine X_getfield (ci := 12) (k := 71) (v := vr (V1 x0 71)) dX12_add_23 rfl (by decide) kf_RX12_161 rfl (hc2.1 c3).1 ?_
    refine X_iload_n dX12_add_26 rfl ?_
    refine X_dup2 dX12_add_27 rfl (rv_cat _) ?_
    refine X_iaload dX12_add_28 (hc2.1 c3).2.1 (hc2.1 c3).2.2.1 (hc2.1 c3).2.2.2.1 ?_
    refine X_iconst dX12_add_29 (by decide) ?_
    refine X_iload_n dX12_add_30 rfl ?_
    refine X_ishl dX12_add_31 ?_
    refine X_ior dX12_add_32 ?_
    refine X_iastore dX12_add_33 (hc2.1 c3).2.1 (hc2.1 c3).2.2.1 (hc2.1 c3).2.2.2.1 ?_
    refine X_iconst dX12_add_34 (by decide) ?_
    refine X_iload_n dX12_add_35 rfl ?_
    refine X_isubN dX12_add_36 (hc2.1 c3).2.2.2.2.1 (hc2.1 c3).2.2.2.2.2.1 ?_
    exact X_ret (z := (1 - (bAnd (bShr (V1 (V1 x0 71) x1) x2) 1))) dX12_add_37 rfl (fun hv => vok_h hv) (hc2.1 c3).2.2.2.2.2.2
  · refine X_iconst dX12_add_9 (by decide) ?_
    exact X_ret (z := (-1)) dX12_add_10 rfl (fun hv => vok_h hv) (hc2.2 c3)
theorem qX12_add {l : Launch} {G : GT} {Q : Int → Sh → Mem → Prop} {d : Nat} {S : Sh} {V : Mem} {mc ms : Nat} {x0 x1 x2 : Int} (h : 0 ≤ x0 → inI x1 → inI x2 → XJ l G bX12_add Q d 0 [vr x0, vi x1, vi x2, vu] [] S V mc ms) : Ct l G bX12_add Q d mc ms [vr x0, vi x1, vi x2] S V := Ct.of okX12_add.1 trivial (Nat.le_of_ble_eq_true rfl) (fun hv => h (hv _ (List.mem_of_getElem? (i := 0) rfl)) (hv _ (List.mem_of_getElem? (i := 1) rfl)) (hv _ (List.mem_of_getElem? (i := 2) rfl)))
set_option maxRecDepth 10000 in
theorem vX12_take_0 {l : Launch} {G : GT} {Q : Int → Sh → Mem → Prop} {d : Nat} {S : Sh} {V : Mem} {mc ms : Nat} {x0 x1 x2 : Int} (h : S.1 x0 = 13 ∧ CT l G bX12_isIn d mc ms [vr x0, vi x1, vi x2] S V (fun z1 S1 V1 mc1 ms1 => (z1 ≠ 0 → S1.1 x0 = 13 ∧ S1.1 (V1 x0 71) = 20 ∧ 0 ≤ x1 ∧ x1 < S1.2.1 (V1 x0 71) ∧ Q (bAnd (bShr (V1 (V1 x0 71) x1) x2) 1) S1 (up V1 (V1 x0 71) x1 (bAnd (V1 (V1 x0 71) x1) (bXor (bShl 1 x2) (-1))))) ∧ (¬ (z1 ≠ 0) → Q (-1) S1 V1))) : XJ l G bX12_take Q d 0 [vr x0, vi x1, vi x2, vu] [] S V mc ms := by
  refine X_aload_n dX12_take_0 rfl ?_
  refine X_iload_n dX12_take_1 rfl ?_
  refine X_iload_n dX12_take_2 rfl ?_
  refine X_invV (ci := 12) (as := [vi x1, vi x2]) (st := []) okX12_isIn dX12_take_3 km_RX12_464 rfl rfl (Nat.le_of_ble_eq_true rfl) rfl rfl h.1 (CT.imp h.2 (fun z1 S1 V1 mc1 ms1 hc2 => ?_))
  refine X_if_ne dX12_take_6 (tgt := 11) rfl (fun c3 => ?_) (fun c3 => ?_)
  · refine X_aload_n dX12_take_11 rfl ?_
    refine X_getfield (ci := 12) (k := 71) (v := vr (V1 x0 71)) dX12_take_12 rfl (by decide) kf_RX12_161 rfl (hc2.1 c3).1 ?_
    refine X_iload_n dX12_take_15 rfl ?_
    refine X_iaload dX12_take_16 (hc2.1 c3).2.1 (hc2.1 c3).2.2.1 (hc2.1 c3).2.2.2.1 ?_
    refine X_iload_n dX12_take_17 rfl ?_
    refine X_ishr dX12_take_18 ?_
    refine X_iconst dX12_take_19 (by decide) ?_
    refine X_iand dX12_take_20 ?_
    refine X_istore_n dX12_take_21 (by decide) rfl ?_
    refine X_aload_n dX12_take_22 rfl ?_
    refine X_getfield (ci := 12) (k := 71) (v := vr (V1 x0 71)) dX12_take_23 rfl (by decide) kf_RX12_161 rfl (hc2.1 c3).1 ?_
    refine X_iload_n dX12_take_26 rfl ?_
    refine X_dup2 dX12_take_27 rfl (rv_cat _) ?_
    refine X_iaload dX12_take_28 (hc2.1 c3).2.1 (hc2.1 c3).2.2.1 (hc2.1 c3).2.2.2.1 ?_
    refine X_iconst dX12_take_29 (by decide) ?_
    refine X_iload_n dX12_take_30 rfl ?_
    refine X_ishl dX12_take_31 ?_
    refine X_iconst dX12_take_32 (by decide) ?_
    refine X_ixor dX12_take_33 ?_
    refine X_iand dX12_take_34 ?_
    refine X_iastore dX12_take_35 (hc2.1 c3).2.1 (hc2.1 c3).2.2.1 (hc2.1 c3).2.2.2.1 ?_
    refine X_iload_n dX12_take_36 rfl ?_
    exact X_ret (z := (bAnd (bShr (V1 (V1 x0 71) x1) x2) 1)) dX12_take_37 rfl (fun hv => vok_h hv) (hc2.1 c3).2.2.2.2
  · refine X_iconst dX12_take_9 (by decide) ?_
    exact X_ret (z := (-1)) dX12_take_10 rfl (fun hv => vok_h hv) (hc2.2 c3)
theorem qX12_take {l : Launch} {G : GT} {Q : Int → Sh → Mem → Prop} {d : Nat} {S : Sh} {V : Mem} {mc ms : Nat} {x0 x1 x2 : Int} (h : 0 ≤ x0 → inI x1 → inI x2 → XJ l G bX12_take Q d 0 [vr x0, vi x1, vi x2, vu] [] S V mc ms) : Ct l G bX12_take Q d mc ms [vr x0, vi x1, vi x2] S V := Ct.of okX12_take.1 trivial (Nat.le_of_ble_eq_true rfl) (fun hv => h (hv _ (List.mem_of_getElem? (i := 0) rfl)) (hv _ (List.mem_of_getElem? (i := 1) rfl)) (hv _ (List.mem_of_getElem? (i := 2) rfl)))
set_option maxRecDepth 10000 in
theorem vX12_join_0 {l : Launch} {G : GT} {Q : Int → Sh → Mem → Prop} {d : Nat} {S : Sh} {V : Mem} {mc ms : Nat} {x0 x1 x2 x3 : Int} (h : (x1 < 0 → Q (-1) S V) ∧ (¬ (x1 < 0) → S.1 x0 = 13 ∧ ((V x0 72) ≤ x1 → Q (-1) S V) ∧ (¬ ((V x0 72) ≤ x1) → (x2 < 0 → Q (-1) S V) ∧ (¬ (x2 < 0) → (x2 < (V x0 72) → S.1 (V x0 70) = 20 ∧ 0 ≤ x1 ∧ x1 < S.2.1 (V x0 70) ∧ 0 ≤ x2 ∧ x2 < S.2.1 (V x0 70) ∧ ((V (V x0 70) x1) ≠ (V (V x0 70) x2) → Q (-4) S V) ∧ (¬ ((V (V x0 70) x1) ≠ (V (V x0 70) x2)) → (x3 < 0 → Q (-4) S V) ∧ (¬ (x3 < 0) → (x3 ≤ 3 → ((V x0 72) ≠ 40 → S.1 (V x0 71) = 20 ∧ x1 < S.2.1 (V x0 71) ∧ x2 < S.2.1 (V x0 71) ∧ 0 ≤ (V x0 72) ∧ (V x0 72) < S.2.1 (V x0 70) ∧ (x3 ≠ 0 → (x3 ≠ 1 → (x3 ≠ 2 → (V x0 72) < S.2.1 (V x0 71) ∧ -2147483648 ≤ (V x0 72) + 1 ∧ (V x0 72) + 1 ≤ 2147483647 ∧ -2147483648 ≤ ((V x0 72) + 1) - 1 ∧ ((V x0 72) + 1) - 1 ≤ 2147483647 ∧ Q (((V x0 72) + 1) - 1) S (up (up (up V (V x0 70) (V x0 72) (V (V x0 70) x1)) (V x0 71) (V x0 72) (bXor (V (V x0 71) x1) (V (V x0 71) x2))) x0 72 ((V x0 72) + 1))) ∧ (¬ (x3 ≠ 2) → (V x0 72) < S.2.1 (V x0 71) ∧ -2147483648 ≤ (V x0 72) + 1 ∧ (V x0 72) + 1 ≤ 2147483647 ∧ -2147483648 ≤ ((V x0 72) + 1) - 1 ∧ ((V x0 72) + 1) - 1 ≤ 2147483647 ∧ Q (((V x0 72) + 1) - 1) S (up (up (up V (V x0 70) (V x0 72) (V (V x0 70) x1)) (V x0 71) (V x0 72) (bAnd (V (V x0 71) x1) (bXor (V (V x0 71) x2) (-1)))) x0 72 ((V x0 72) + 1)))) ∧ (¬ (x3 ≠ 1) → (V x0 72) < S.2.1 (V x0 71) ∧ -2147483648 ≤ (V x0 72) + 1 ∧ (V x0 72) + 1 ≤ 2147483647 ∧ -2147483648 ≤ ((V x0 72) + 1) - 1 ∧ ((V x0 72) + 1) - 1 ≤ 2147483647 ∧ Q (((V x0 72) + 1) - 1) S (up (up (up V (V x0 70) (V x0 72) (V (V x0 70) x1)) (V x0 71) (V x0 72) (bAnd (V (V x0 71) x1) (V (V x0 71) x2))) x0 72 ((V x0 72) + 1)))) ∧ (¬ (x3 ≠ 0) → (V x0 72) < S.2.1 (V x0 71) ∧ -2147483648 ≤ (V x0 72) + 1 ∧ (V x0 72) + 1 ≤ 2147483647 ∧ -2147483648 ≤ ((V x0 72) + 1) - 1 ∧ ((V x0 72) + 1) - 1 ≤ 2147483647 ∧ Q (((V x0 72) + 1) - 1) S (up (up (up V (V x0 70) (V x0 72) (V (V x0 70) x1)) (V x0 71) (V x0 72) (bOr (V (V x0 71) x1) (V (V x0 71) x2))) x0 72 ((V x0 72) + 1)))) ∧ (¬ ((V x0 72) ≠ 40) → Q (-2) S V)) ∧ (¬ (x3 ≤ 3) → Q (-4) S V)))) ∧ (¬ (x2 < (V x0 72)) → Q (-1) S V))))) : XJ l G bX12_join Q d 0 [vr x0, vi x1, vi x2, vi x3, vu, vu] [] S V mc ms := by
  refine X_iload_n dX12_join_0 rfl ?_
  refine X_if_lt dX12_join_1 (tgt := 24) rfl (fun c1 => ?_) (fun c1 => ?_)
  · refine X_iconst dX12_join_24 (by decide) ?_
    exact X_ret (z := (-1)) dX12_join_25 rfl (fun hv => vok_h hv) (h.1 c1)
  · refine X_iload_n dX12_join_4 rfl ?_
    refine X_aload_n dX12_join_5 rfl ?_
    refine X_getfield (ci := 12) (k := 72) (v := vi (V x0 72)) dX12_join_6 rfl (by decide) kf_RX12_461 rfl (h.2 c1).1 ?_
    refine X_icmp_ge dX12_join_9 (tgt := 24) rfl (fun c2 => ?_) (fun c2 => ?_)
    · refine X_iconst dX12_join_24 (by decide) ?_
      exact X_ret (z := (-1)) dX12_join_25 rfl (fun hv => vok_h hv) ((h.2 c1).2.1 c2)
    · refine X_iload_n dX12_join_12 rfl ?_
      refine X_if_lt dX12_join_13 (tgt := 24) rfl (fun c3 => ?_) (fun c3 => ?_)
      · refine X_iconst dX12_join_24 (by decide) ?_
        exact X_ret (z := (-1)) dX12_join_25 rfl (fun hv => vok_h hv) (((h.2 c1).2.2 c2).1 c3)
      · refine X_iload_n dX12_join_16 rfl ?_
        refine X_aload_n dX12_join_17 rfl ?_
        refine X_getfield (ci := 12) (k := 72) (v := vi (V x0 72)) dX12_join_18 rfl (by decide) kf_RX12_461 rfl (h.2 c1).1 ?_
        refine X_icmp_lt dX12_join_21 (tgt := 26) rfl (fun c4 => ?_) (fun c4 => ?_)
        · refine X_aload_n dX12_join_26 rfl ?_
          refine X_getfield (ci := 12) (k := 70) (v := vr (V x0 70)) dX12_join_27 rfl (by decide) kf_RX12_158 rfl (h.2 c1).1 ?_
          refine X_iload_n dX12_join_30 rfl ?_
          refine X_iaload dX12_join_31 ((((h.2 c1).2.2 c2).2 c3).1 c4).1 ((((h.2 c1).2.2 c2).2 c3).1 c4).2.1 ((((h.2 c1).2.2 c2).2 c3).1 c4).2.2.1 ?_
          refine X_aload_n dX12_join_32 rfl ?_
          refine X_getfield (ci := 12) (k := 70) (v := vr (V x0 70)) dX12_join_33 rfl (by decide) kf_RX12_158 rfl (h.2 c1).1 ?_
          refine X_iload_n dX12_join_36 rfl ?_
          refine X_iaload dX12_join_37 ((((h.2 c1).2.2 c2).2 c3).1 c4).1 ((((h.2 c1).2.2 c2).2 c3).1 c4).2.2.2.1 ((((h.2 c1).2.2 c2).2 c3).1 c4).2.2.2.2.1 ?_
          refine X_icmp_ne dX12_join_38 (tgt := 50) rfl (fun c5 => ?_) (fun c5 => ?_)
          · refine X_bipush dX12_join_50 (by decide) (by decide) ?_
            exact X_ret (z := (-4)) dX12_join_52 rfl (fun hv => vok_h hv) (((((h.2 c1).2.2 c2).2 c3).1 c4).2.2.2.2.2.1 c5)
          · refine X_iload_n dX12_join_41 rfl ?_
            refine X_if_lt dX12_join_42 (tgt := 50) rfl (fun c6 => ?_) (fun c6 => ?_)
            · refine X_bipush dX12_join_50 (by decide) (by decide) ?_
              exact X_ret (z := (-4)) dX12_join_52 rfl (fun hv => vok_h hv) ((((((h.2 c1).2.2 c2).2 c3).1 c4).2.2.2.2.2.2 c5).1 c6)
            · refine X_iload_n dX12_join_45 rfl ?_
              refine X_iconst dX12_join_46 (by decide) ?_
              refine X_icmp_le dX12_join_47 (tgt := 53) rfl (fun c7 => ?_) (fun c7 => ?_)
              · refine X_aload_n dX12_join_53 rfl ?_
                refine X_getfield (ci := 12) (k := 72) (v := vi (V x0 72)) dX12_join_54 rfl (by decide) kf_RX12_461 rfl (h.2 c1).1 ?_
                refine X_bipush dX12_join_57 (by decide) (by decide) ?_
                refine X_icmp_ne dX12_join_59 (tgt := 65) rfl (fun c8 => ?_) (fun c8 => ?_)
                · refine X_aload_n dX12_join_65 rfl ?_
                  refine X_getfield (ci := 12) (k := 71) (v := vr (V x0 71)) dX12_join_66 rfl (by decide) kf_RX12_161 rfl (h.2 c1).1 ?_
                  refine X_iload_n dX12_join_69 rfl ?_
                  refine X_iaload dX12_join_70 ((((((((h.2 c1).2.2 c2).2 c3).1 c4).2.2.2.2.2.2 c5).2 c6).1 c7).1 c8).1 ((((h.2 c1).2.2 c2).2 c3).1 c4).2.1 ((((((((h.2 c1).2.2 c2).2 c3).1 c4).2.2.2.2.2.2 c5).2 c6).1 c7).1 c8).2.1 ?_
                  refine X_istore dX12_join_71 (by decide) rfl ?_
                  refine X_aload_n dX12_join_73 rfl ?_
                  refine X_getfield (ci := 12) (k := 71) (v := vr (V x0 71)) dX12_join_74 rfl (by decide) kf_RX12_161 rfl (h.2 c1).1 ?_
                  refine X_iload_n dX12_join_77 rfl ?_
                  refine X_iaload dX12_join_78 ((((((((h.2 c1).2.2 c2).2 c3).1 c4).2.2.2.2.2.2 c5).2 c6).1 c7).1 c8).1 ((((h.2 c1).2.2 c2).2 c3).1 c4).2.2.2.1 ((((((((h.2 c1).2.2 c2).2 c3).1 c4).2.2.2.2.2.2 c5).2 c6).1 c7).1 c8).2.2.1 ?_
                  refine X_istore dX12_join_79 (by decide) rfl ?_
                  refine X_aload_n dX12_join_81 rfl ?_
                  refine X_getfield (ci := 12) (k := 70) (v := vr (V x0 70)) dX12_join_82 rfl (by decide) kf_RX12_158 rfl (h.2 c1).1 ?_
                  refine X_aload_n dX12_join_85 rfl ?_
                  refine X_getfield (ci := 12) (k := 72) (v := vi (V x0 72)) dX12_join_86 rfl (by decide) kf_RX12_461 rfl (h.2 c1).1 ?_
                  refine X_aload_n dX12_join_89 rfl ?_
                  refine X_getfield (ci := 12) (k := 70) (v := vr (V x0 70)) dX12_join_90 rfl (by decide) kf_RX12_158 rfl (h.2 c1).1 ?_
                  refine X_iload_n dX12_join_93 rfl ?_
                  refine X_iaload dX12_join_94 ((((h.2 c1).2.2 c2).2 c3).1 c4).1 ((((h.2 c1).2.2 c2).2 c3).1 c4).2.1 ((((h.2 c1).2.2 c2).2 c3).1 c4).2.2.1 ?_
                  refine X_iastore dX12_join_95 ((((h.2 c1).2.2 c2).2 c3).1 c4).1 ((((((((h.2 c1).2.2 c2).2 c3).1 c4).2.2.2.2.2.2 c5).2 c6).1 c7).1 c8).2.2.2.1 ((((((((h.2 c1).2.2 c2).2 c3).1 c4).2.2.2.2.2.2 c5).2 c6).1 c7).1 c8).2.2.2.2.1 ?_
                  refine X_aload_n dX12_join_96 rfl ?_
                  refine X_getfield (ci := 12) (k := 71) (v := vr (V x0 71)) dX12_join_97 rfl (by decide) kf_RX12_161 (congrArg vr (up_ne (Or.inl (tag_ne (h.2 c1).1 ((((h.2 c1).2.2 c2).2 c3).1 c4).1 (by decide))))) (h.2 c1).1 ?_
                  refine X_aload_n dX12_join_100 rfl ?_
                  refine X_getfield (ci := 12) (k := 72) (v := vi (V x0 72)) dX12_join_101 rfl (by decide) kf_RX12_461 (congrArg vi (up_ne (Or.inl (tag_ne (h.2 c1).1 ((((h.2 c1).2.2 c2).2 c3).1 c4).1 (by decide))))) (h.2 c1).1 ?_
                  refine X_iload_n dX12_join_104 rfl ?_
                  refine X_if_ne dX12_join_105 (tgt := 116) rfl (fun c9 => ?_) (fun c9 => ?_)
                  · refine X_iload_n dX12_join_116 rfl ?_
                    refine X_iconst dX12_join_117 (by decide) ?_
                    refine X_icmp_ne dX12_join_118 (tgt := 129) rfl (fun c10 => ?_) (fun c10 => ?_)
                    · refine X_iload_n dX12_join_129 rfl ?_
                      refine X_iconst dX12_join_130 (by decide) ?_
                      refine X_icmp_ne dX12_join_131 (tgt := 144) rfl (fun c11 => ?_) (fun c11 => ?_)
                      · refine X_iload dX12_join_144 rfl ?_
                        refine X_iload dX12_join_146 rfl ?_
                        refine X_ixor dX12_join_148 ?_
                        refine X_iastore dX12_join_149 ((((((((h.2 c1).2.2 c2).2 c3).1 c4).2.2.2.2.2.2 c5).2 c6).1 c7).1 c8).1 ((((((((h.2 c1).2.2 c2).2 c3).1 c4).2.2.2.2.2.2 c5).2 c6).1 c7).1 c8).2.2.2.1 (((((((((((h.2 c1).2.2 c2).2 c3).1 c4).2.2.2.2.2.2 c5).2 c6).1 c7).1 c8).2.2.2.2.2.1 c9).1 c10).1 c11).1 ?_
                        refine X_aload_n dX12_join_150 rfl ?_
                        refine X_dup dX12_join_151 (rv_cat _) ?_
                        refine X_getfield (ci := 12) (k := 72) (v := vi (V x0 72)) dX12_join_152 rfl (by decide) kf_RX12_461 (congrArg vi ((up_ne (Or.inl (tag_ne (h.2 c1).1 ((((((((h.2 c1).2.2 c2).2 c3).1 c4).2.2.2.2.2.2 c5).2 c6).1 c7).1 c8).1 (by decide)))).trans (up_ne (Or.inl (tag_ne (h.2 c1).1 ((((h.2 c1).2.2 c2).2 c3).1 c4).1 (by decide)))))) (h.2 c1).1 ?_
                        refine X_iconst dX12_join_155 (by decide) ?_
                        refine X_iaddN dX12_join_156 (((((((((((h.2 c1).2.2 c2).2 c3).1 c4).2.2.2.2.2.2 c5).2 c6).1 c7).1 c8).2.2.2.2.2.1 c9).1 c10).1 c11).2.1 (((((((((((h.2 c1).2.2 c2).2 c3).1 c4).2.2.2.2.2.2 c5).2 c6).1 c7).1 c8).2.2.2.2.2.1 c9).1 c10).1 c11).2.2.1 ?_
                        refine X_putfield (ci := 12) (k := 72) (z := ((V x0 72) + 1)) dX12_join_157 rfl (by decide) kf_RX12_461 (Or.inl rfl) (Or.inl rfl) rfl (fun hv => hv) (h.2 c1).1 ?_
                        refine X_aload_n dX12_join_160 rfl ?_
                        refine X_getfield (ci := 12) (k := 72) (v := vi ((V x0 72) + 1)) dX12_join_161 rfl (by decide) kf_RX12_461 (congrArg vi up_eq) (h.2 c1).1 ?_
                        refine X_iconst dX12_join_164 (by decide) ?_
                        refine X_isubN dX12_join_165 (((((((((((h.2 c1).2.2 c2).2 c3).1 c4).2.2.2.2.2.2 c5).2 c6).1 c7).1 c8).2.2.2.2.2.1 c9).1 c10).1 c11).2.2.2.1 (((((((((((h.2 c1).2.2 c2).2 c3).1 c4).2.2.2.2.2.2 c5).2 c6).1 c7).1 c8).2.2.2.2.2.1 c9).1 c10).1 c11).2.2.2.2.1 ?_
                        exact X_ret (z := (((V x0 72) + 1) - 1)) dX12_join_166 rfl (fun hv => vok_h hv) (((((((((((h.2 c1).2.2 c2).2 c3).1 c4).2.2.2.2.2.2 c5).2 c6).1 c7).1 c8).2.2.2.2.2.1 c9).1 c10).1 c11).2.2.2.2.2
                      · refine X_iload dX12_join_134 rfl ?_
                        refine X_iload dX12_join_136 rfl ?_
                        refine X_iconst dX12_join_138 (by decide) ?_
                        refine X_ixor dX12_join_139 ?_
                        refine X_iand dX12_join_140 ?_
                        refine X_goto dX12_join_141 (tgt := 149) rfl ?_
                        refine X_iastore dX12_join_149 ((((((((h.2 c1).2.2 c2).2 c3).1 c4).2.2.2.2.2.2 c5).2 c6).1 c7).1 c8).1 ((((((((h.2 c1).2.2 c2).2 c3).1 c4).2.2.2.2.2.2 c5).2 c6).1 c7).1 c8).2.2.2.1 (((((((((((h.2 c1).2.2 c2).2 c3).1 c4).2.2.2.2.2.2 c5).2 c6).1 c7).1 c8).2.2.2.2.2.1 c9).1 c10).2 c11).1 ?_
                        refine X_aload_n dX12_join_150 rfl ?_
                        refine X_dup dX12_join_151 (rv_cat _) ?_
                        refine X_getfield (ci := 12) (k := 72) (v := vi (V x0 72)) dX12_join_152 rfl (by decide) kf_RX12_461 (congrArg vi ((up_ne (Or.inl (tag_ne (h.2 c1).1 ((((((((h.2 c1).2.2 c2).2 c3).1 c4).2.2.2.2.2.2 c5).2 c6).1 c7).1 c8).1 (by decide)))).trans (up_ne (Or.inl (tag_ne (h.2 c1).1 ((((h.2 c1).2.2 c2).2 c3).1 c4).1 (by decide)))))) (h.2 c1).1 ?_
                        refine X_iconst dX12_join_155 (by decide) ?_
                        refine X_iaddN dX12_join_156 (((((((((((h.2 c1).2.2 c2).2 c3).1 c4).2.2.2.2.2.2 c5).2 c6).1 c7).1 c8).2.2.2.2.2.1 c9).1 c10).2 c11).2.1 (((((((((((h.2 c1).2.2 c2).2 c3).1 c4).2.2.2.2.2.2 c5).2 c6).1 c7).1 c8).2.2.2.2.2.1 c9).1 c10).2 c11).2.2.1 ?_
                        refine X_putfield (ci := 12) (k := 72) (z := ((V x0 72) + 1)) dX12_join_157 rfl (by decide) kf_RX12_461 (Or.inl rfl) (Or.inl rfl) rfl (fun hv => hv) (h.2 c1).1 ?_
                        refine X_aload_n dX12_join_160 rfl ?_
                        refine X_getfield (ci := 12) (k := 72) (v := vi ((V x0 72) + 1)) dX12_join_161 rfl (by decide) kf_RX12_461 (congrArg vi up_eq) (h.2 c1).1 ?_
                        refine X_iconst dX12_join_164 (by decide) ?_
                        refine X_isubN dX12_join_165 (((((((((((h.2 c1).2.2 c2).2 c3).1 c4).2.2.2.2.2.2 c5).2 c6).1 c7).1 c8).2.2.2.2.2.1 c9).1 c10).2 c11).2.2.2.1 (((((((((((h.2 c1).2.2 c2).2 c3).1 c4).2.2.2.2.2.2 c5).2 c6).1 c7).1 c8).2.2.2.2.2.1 c9).1 c10).2 c11).2.2.2.2.1 ?_
                        exact X_ret (z := (((V x0 72) + 1) - 1)) dX12_join_166 rfl (fun hv => vok_h hv) (((((((((((h.2 c1).2.2 c2).2 c3).1 c4).2.2.2.2.2.2 c5).2 c6).1 c7).1 c8).2.2.2.2.2.1 c9).1 c10).2 c11).2.2.2.2.2
                    · refine X_iload dX12_join_121 rfl ?_
                      refine X_iload dX12_join_123 rfl ?_
                      refine X_iand dX12_join_125 ?_
                      refine X_goto dX12_join_126 (tgt := 149) rfl ?_
                      refine X_iastore dX12_join_149 ((((((((h.2 c1).2.2 c2).2 c3).1 c4).2.2.2.2.2.2 c5).2 c6).1 c7).1 c8).1 ((((((((h.2 c1).2.2 c2).2 c3).1 c4).2.2.2.2.2.2 c5).2 c6).1 c7).1 c8).2.2.2.1 ((((((((((h.2 c1).2.2 c2).2 c3).1 c4).2.2.2.2.2.2 c5).2 c6).1 c7).1 c8).2.2.2.2.2.1 c9).2 c10).1 ?_
                      refine X_aload_n dX12_join_150 rfl ?_
                      refine X_dup dX12_join_151 (rv_cat _) ?_
                      refine X_getfield (ci := 12) (k := 72) (v := vi (V x0 72)) dX12_join_152 rfl (by decide) kf_RX12_461 (congrArg vi ((up_ne (Or.inl (tag_ne (h.2 c1).1 ((((((((h.2 c1).2.2 c2).2 c3).1 c4).2.2.2.2.2.2 c5).2 c6).1 c7).1 c8).1 (by decide)))).trans (up_ne (Or.inl (tag_ne (h.2 c1).1 ((((h.2 c1).2.2 c2).2 c3).1 c4).1 (by decide)))))) (h.2 c1).1 ?_
                      refine X_iconst dX12_join_155 (by decide) ?_
                      refine X_iaddN dX12_join_156 ((((((((((h.2 c1).2.2 c2).2 c3).1 c4).2.2.2.2.2.2 c5).2 c6).1 c7).1 c8).2.2.2.2.2.1 c9).2 c10).2.1 ((((((((((h.2 c1).2.2 c2).2 c3).1 c4).2.2.2.2.2.2 c5).2 c6).1 c7).1 c8).2.2.2.2.2.1 c9).2 c10).2.2.1 ?_
                      refine X_putfield (ci := 12) (k := 72) (z := ((V x0 72) + 1)) dX12_join_157 rfl (by decide) kf_RX12_461 (Or.inl rfl) (Or.inl rfl) rfl (fun hv => hv) (h.2 c1).1 ?_
                      refine X_aload_n dX12_join_160 rfl ?_
                      refine X_getfield (ci := 12) (k := 72) (v := vi ((V x0 72) + 1)) dX12_join_161 rfl (by decide) kf_RX12_461 (congrArg vi up_eq) (h.2 c1).1 ?_
                      refine X_iconst dX12_join_164 (by decide) ?_
                      refine X_isubN dX12_join_165 ((((((((((h.2 c1).2.2 c2).2 c3).1 c4).2.2.2.2.2.2 c5).2 c6).1 c7).1 c8).2.2.2.2.2.1 c9).2 c10).2.2.2.1 ((((((((((h.2 c1).2.2 c2).2 c3).1 c4).2.2.2.2.2.2 c5).2 c6).1 c7).1 c8).2.2.2.2.2.1 c9).2 c10).2.2.2.2.1 ?_
                      exact X_ret (z := (((V x0 72) + 1) - 1)) dX12_join_166 rfl (fun hv => vok_h hv) ((((((((((h.2 c1).2.2 c2).2 c3).1 c4).2.2.2.2.2.2 c5).2 c6).1 c7).1 c8).2.2.2.2.2.1 c9).2 c10).2.2.2.2.2
                  · refine X_iload dX12_join_108 rfl ?_
                    refine X_iload dX12_join_110 rfl ?_
                    refine X_ior dX12_join_112 ?_
                    refine X_goto dX12_join_113 (tgt := 149) rfl ?_
                    refine X_iastore dX12_join_149 ((((((((h.2 c1).2.2 c2).2 c3).1 c4).2.2.2.2.2.2 c5).2 c6).1 c7).1 c8).1 ((((((((h.2 c1).2.2 c2).2 c3).1 c4).2.2.2.2.2.2 c5).2 c6).1 c7).1 c8).2.2.2.1 (((((((((h.2 c1).2.2 c2).2 c3).1 c4).2.2.2.2.2.2 c5).2 c6).1 c7).1 c8).2.2.2.2.2.2 c9).1 ?_
                    refine X_aload_n dX12_join_150 rfl ?_
                    refine X_dup dX12_join_151 (rv_cat _) ?_
                    refine X_getfield (ci := 12) (k := 72) (v := vi (V x0 72)) dX12_join_152 rfl (by decide) kf_RX12_461 (congrArg vi ((up_ne (Or.inl (tag_ne (h.2 c1).1 ((((((((h.2 c1).2.2 c2).2 c3).1 c4).2.2.2.2.2.2 c5).2 c6).1 c7).1 c8).1 (by decide)))).trans (up_ne (Or.inl (tag_ne (h.2 c1).1 ((((h.2 c1).2.2 c2).2 c3).1 c4).1 (by decide)))))) (h.2 c1).1 ?_
                    refine X_iconst dX12_join_155 (by decide) ?_
                    refine X_iaddN dX12_join_156 (((((((((h.2 c1).2.2 c2).2 c3).1 c4).2.2.2.2.2.2 c5).2 c6).1 c7).1 c8).2.2.2.2.2.2 c9).2.1 (((((((((h.2 c1).2.2 c2).2 c3).1 c4).2.2.2.2.2.2 c5).2 c6).1 c7).1 c8).2.2.2.2.2.2 c9).2.2.1 ?_
                    refine X_putfield (ci := 12) (k := 72) (z := ((V x0 72) + 1)) dX12_join_157 rfl (by decide) kf_RX12_461 (Or.inl rfl) (Or.inl rfl) rfl (fun hv => hv) (h.2 c1).1 ?_
                    refine X_aload_n dX12_join_160 rfl ?_
                    refine X_getfield (ci := 12) (k := 72) (v := vi ((V x0 72) + 1)) dX12_join_161 rfl (by decide) kf_RX12_461 (congrArg vi up_eq) (h.2 c1).1 ?_
                    refine X_iconst dX12_join_164 (by decide) ?_
                    refine X_isubN dX12_join_165 (((((((((h.2 c1).2.2 c2).2 c3).1 c4).2.2.2.2.2.2 c5).2 c6).1 c7).1 c8).2.2.2.2.2.2 c9).2.2.2.1 (((((((((h.2 c1).2.2 c2).2 c3).1 c4).2.2.2.2.2.2 c5).2 c6).1 c7).1 c8).2.2.2.2.2.2 c9).2.2.2.2.1 ?_
                    exact X_ret (z := (((V x0 72) + 1) - 1)) dX12_join_166 rfl (fun hv => vok_h hv) (((((((((h.2 c1).2.2 c2).2 c3).1 c4).2.2.2.2.2.2 c5).2 c6).1 c7).1 c8).2.2.2.2.2.2 c9).2.2.2.2.2
                · refine X_bipush dX12_join_62 (by decide) (by decide) ?_
                  exact X_ret (z := (-2)) dX12_join_64 rfl (fun hv => vok_h hv) ((((((((h.2 c1).2.2 c2).2 c3).1 c4).2.2.2.2.2.2 c5).2 c6).1 c7).2 c8)
              · refine X_bipush dX12_join_50 (by decide) (by decide) ?_
                exact X_ret (z := (-4)) dX12_join_52 rfl (fun hv => vok_h hv) (((((((h.2 c1).2.2 c2).2 c3).1 c4).2.2.2.2.2.2 c5).2 c6).2 c7)
        · refine X_iconst dX12_join_24 (by decide) ?_
          exact X_ret (z := (-1)) dX12_join_25 rfl (fun hv => vok_h hv) ((((h.2 c1).2.2 c2).2 c3).2 c4)
theorem qX12_join {l : Launch} {G : GT} {Q : Int → Sh → Mem → Prop} {d : Nat} {S : Sh} {V : Mem} {mc ms : Nat} {x0 x1 x2 x3 : Int} (h : 0 ≤ x0 → inI x1 → inI x2 → inI x3 → XJ l G bX12_join Q d 0 [vr x0, vi x1, vi x2, vi x3, vu, vu] [] S V mc ms) : Ct l G bX12_join Q d mc ms [vr x0, vi x1, vi x2, vi x3] S V := Ct.of okX12_join.1 trivial (Nat.le_of_ble_eq_true rfl) (fun hv => h (hv _ (List.mem_of_getElem? (i := 0) rfl)) (hv _ (List.mem_of_getElem? (i := 1) rfl)) (hv _ (List.mem_of_getElem? (i := 2) rfl)) (hv _ (List.mem_of_getElem? (i := 3) rfl)))
set_option maxRecDepth 10000 in
theorem vX12_member_0 {l : Launch} {G : GT} {Q : Int → Sh → Mem → Prop} {d : Nat} {S : Sh} {V : Mem} {mc ms : Nat} {x0 x1 x2 : Int} (h : (x1 < 0 → Q (-1) S V) ∧ (¬ (x1 < 0) → S.1 x0 = 13 ∧ ((V x0 72) ≤ x1 → Q (-1) S V) ∧ (¬ ((V x0 72) ≤ x1) → ((-1) ≤ x2 → XJ l G bX12_member Q d 24 [vr x0, vi x1, vi x2, vi 0, vi 0] [] S V mc ms) ∧ (¬ ((-1) ≤ x2) → Q (-1) S V)))) : XJ l G bX12_member Q d 0 [vr x0, vi x1, vi x2, vu, vu] [] S V mc ms := by
  refine X_iload_n dX12_member_0 rfl ?_
  refine X_if_lt dX12_member_1 (tgt := 17) rfl (fun c1 => ?_) (fun c1 => ?_)
  · refine X_iconst dX12_member_17 (by decide) ?_
    exact X_ret (z := (-1)) dX12_member_18 rfl (fun hv => vok_h hv) (h.1 c1)
  · refine X_iload_n dX12_member_4 rfl ?_
    refine X_aload_n dX12_member_5 rfl ?_
    refine X_getfield (ci := 12) (k := 72) (v := vi (V x0 72)) dX12_member_6 rfl (by decide) kf_RX12_461 rfl (h.2 c1).1 ?_
    refine X_icmp_ge dX12_member_9 (tgt := 17) rfl (fun c2 => ?_) (fun c2 => ?_)
    · refine X_iconst dX12_member_17 (by decide) ?_
      exact X_ret (z := (-1)) dX12_member_18 rfl (fun hv => vok_h hv) ((h.2 c1).2.1 c2)
    · refine X_iload_n dX12_member_12 rfl ?_
      refine X_iconst dX12_member_13 (by decide) ?_
      refine X_icmp_ge dX12_member_14 (tgt := 19) rfl (fun c3 => ?_) (fun c3 => ?_)
      · refine X_iconst dX12_member_19 (by decide) ?_
        refine X_istore_n dX12_member_20 (by decide) rfl ?_
        refine X_iconst dX12_member_21 (by decide) ?_
        refine X_istore dX12_member_22 (by decide) rfl ?_
        exact (((h.2 c1).2.2 c2).1 c3)
      · refine X_iconst dX12_member_17 (by decide) ?_
        exact X_ret (z := (-1)) dX12_member_18 rfl (fun hv => vok_h hv) (((h.2 c1).2.2 c2).2 c3)
set_option maxRecDepth 10000 in
theorem vX12_member_24 {l : Launch} {G : GT} {Q : Int → Sh → Mem → Prop} {d : Nat} {S : Sh} {V : Mem} {mc ms : Nat} {x0 x1 x2 x3 x4 : Int} (h : (24 ≤ x4 → (x2 ≠ (-1) → Q (-1) S V) ∧ (¬ (x2 ≠ (-1)) → Q x3 S V)) ∧ (¬ (24 ≤ x4) → S.1 x0 = 13 ∧ S.1 (V x0 71) = 20 ∧ 0 ≤ x1 ∧ x1 < S.2.1 (V x0 71) ∧ ((bAnd (bShr (V (V x0 71) x1) x4) 1) ≠ 0 → (x3 ≠ x2 → -2147483648 ≤ x3 + 1 ∧ x3 + 1 ≤ 2147483647 ∧ -2147483648 ≤ x4 + 1 ∧ x4 + 1 ≤ 2147483647 ∧ XJ l G bX12_member Q d 24 [vr x0, vi x1, vi x2, vi (x3 + 1), vi (x4 + 1)] [] S V mc ms) ∧ (¬ (x3 ≠ x2) → Q x4 S V)) ∧ (¬ ((bAnd (bShr (V (V x0 71) x1) x4) 1) ≠ 0) → -2147483648 ≤ x4 + 1 ∧ x4 + 1 ≤ 2147483647 ∧ XJ l G bX12_member Q d 24 [vr x0, vi x1, vi x2, vi x3, vi (x4 + 1)] [] S V mc ms))) : XJ l G bX12_member Q d 24 [vr x0, vi x1, vi x2, vi x3, vi x4] [] S V mc ms := by
  refine X_iload dX12_member_24 rfl ?_
  refine X_bipush dX12_member_26 (by decide) (by decide) ?_
  refine X_icmp_ge dX12_member_28 (tgt := 65) rfl (fun c1 => ?_) (fun c1 => ?_)
  · refine X_iload_n dX12_member_65 rfl ?_
    refine X_iconst dX12_member_66 (by decide) ?_
    refine X_icmp_ne dX12_member_67 (tgt := 74) rfl (fun c2 => ?_) (fun c2 => ?_)
    · refine X_iconst dX12_member_74 (by decide) ?_
      exact X_ret (z := (-1)) dX12_member_75 rfl (fun hv => vok_h hv) ((h.1 c1).1 c2)
    · refine X_iload_n dX12_member_70 rfl ?_
      refine X_goto dX12_member_71 (tgt := 75) rfl ?_
      exact X_ret (z := x3) dX12_member_75 rfl (fun hv => vok_h hv) ((h.1 c1).2 c2)
  · refine X_aload_n dX12_member_31 rfl ?_
    refine X_getfield (ci := 12) (k := 71) (v := vr (V x0 71)) dX12_member_32 rfl (by decide) kf_RX12_161 rfl (h.2 c1).1 ?_
    refine X_iload_n dX12_member_35 rfl ?_
    refine X_iaload dX12_member_36 (h.2 c1).2.1 (h.2 c1).2.2.1 (h.2 c1).2.2.2.1 ?_
    refine X_iload dX12_member_37 rfl ?_
    refine X_ishr dX12_member_39 ?_
    refine X_iconst dX12_member_40 (by decide) ?_
    refine X_iand dX12_member_41 ?_
    refine X_if_ne dX12_member_42 (tgt := 48) rfl (fun c3 => ?_) (fun c3 => ?_)
    · refine X_iload_n dX12_member_48 rfl ?_
      refine X_iload_n dX12_member_49 rfl ?_
      refine X_icmp_ne dX12_member_50 (tgt := 56) rfl (fun c4 => ?_) (fun c4 => ?_)
      · refine X_iincN dX12_member_56 rfl (by decide) rfl (e := x3 + 1) rfl (((h.2 c1).2.2.2.2.1 c3).1 c4).1 (((h.2 c1).2.2.2.2.1 c3).1 c4).2.1 ?_
        refine X_iincN dX12_member_59 rfl (by decide) rfl (e := x4 + 1) rfl (((h.2 c1).2.2.2.2.1 c3).1 c4).2.2.1 (((h.2 c1).2.2.2.2.1 c3).1 c4).2.2.2.1 ?_
        refine X_goto dX12_member_62 (tgt := 24) rfl ?_
        exact (((h.2 c1).2.2.2.2.1 c3).1 c4).2.2.2.2
      · refine X_iload dX12_member_53 rfl ?_
        exact X_ret (z := x4) dX12_member_55 rfl (fun hv => vok_h hv) (((h.2 c1).2.2.2.2.1 c3).2 c4)
    · refine X_goto dX12_member_45 (tgt := 59) rfl ?_
      refine X_iincN dX12_member_59 rfl (by decide) rfl (e := x4 + 1) rfl ((h.2 c1).2.2.2.2.2 c3).1 ((h.2 c1).2.2.2.2.2 c3).2.1 ?_
      refine X_goto dX12_member_62 (tgt := 24) rfl ?_
      exact ((h.2 c1).2.2.2.2.2 c3).2.2
theorem qX12_member {l : Launch} {G : GT} {Q : Int → Sh → Mem → Prop} {d : Nat} {S : Sh} {V : Mem} {mc ms : Nat} {x0 x1 x2 : Int} (h : 0 ≤ x0 → inI x1 → inI x2 → XJ l G bX12_member Q d 0 [vr x0, vi x1, vi x2, vu, vu] [] S V mc ms) : Ct l G bX12_member Q d mc ms [vr x0, vi x1, vi x2] S V := Ct.of okX12_member.1 trivial (Nat.le_of_ble_eq_true rfl) (fun hv => h (hv _ (List.mem_of_getElem? (i := 0) rfl)) (hv _ (List.mem_of_getElem? (i := 1) rfl)) (hv _ (List.mem_of_getElem? (i := 2) rfl)))
set_option maxRecDepth 10000 in
theorem vX12_map_0 {l : Launch} {G : GT} {Q : Int → Sh → Mem → Prop} {d : Nat} {S : Sh} {V : Mem} {mc ms : Nat} {x0 x1 x2 : Int} (h : S.1 x0 = 13 ∧ CT l G bX12_isEnum d mc ms [vr x0, vi x1, vi x2] S V (fun z1 S1 V1 mc1 ms1 => (z1 ≠ 0 → S1.1 x0 = 13 ∧ ((V1 x0 76) ≠ 10 → CT l G bX12_uses d mc1 ms1 [vr x0, vi x1, vi x2] S1 V1 (fun z5 S5 V5 mc5 ms5 => (z5 ≠ (-3) → S5.1 x0 = 13 ∧ -2147483648 ≤ 12 * x1 ∧ 12 * x1 ≤ 2147483647 ∧ -2147483648 ≤ (12 * x1) + x2 ∧ (12 * x1) + x2 ≤ 2147483647 ∧ S5.1 (V5 x0 73) = 20 ∧ 0 ≤ (V5 x0 76) ∧ (V5 x0 76) < S5.2.1 (V5 x0 73) ∧ S5.1 (V5 x0 74) = 20 ∧ (V5 x0 76) < S5.2.1 (V5 x0 74) ∧ -2147483648 ≤ (V5 x0 76) + 1 ∧ (V5 x0 76) + 1 ≤ 2147483647 ∧ -2147483648 ≤ ((V5 x0 76) + 1) - 1 ∧ ((V5 x0 76) + 1) - 1 ≤ 2147483647 ∧ Q (((V5 x0 76) + 1) - 1) S5 (up (up (up V5 (V5 x0 73) (V5 x0 76) ((12 * x1) + x2)) (V5 x0 74) (V5 x0 76) 0) x0 76 ((V5 x0 76) + 1))) ∧ (¬ (z5 ≠ (-3)) → Q (-3) S5 V5))) ∧ (¬ ((V1 x0 76) ≠ 10) → Q (-2) S1 V1)) ∧ (¬ (z1 ≠ 0) → Q (-1) S1 V1))) : XJ l G bX12_map Q d 0 [vr x0, vi x1, vi x2] [] S V mc ms := by
  refine X_aload_n dX12_map_0 rfl ?_
  refine X_iload_n dX12_map_1 rfl ?_
  refine X_iload_n dX12_map_2 rfl ?_
  refine X_invV (ci := 12) (as := [vi x1, vi x2]) (st := []) okX12_isEnum dX12_map_3 km_RX12_439 rfl rfl (Nat.le_of_ble_eq_true rfl) rfl rfl h.1 (CT.imp h.2 (fun z1 S1 V1 mc1 ms1 hc2 => ?_))
  refine X_if_ne dX12_map_6 (tgt := 11) rfl (fun c3 => ?_) (fun c3 => ?_)
  · refine X_aload_n dX12_map_11 rfl ?_
    refine X_getfield (ci := 12) (k := 76) (v := vi (V1 x0 76)) dX12_map_12 rfl (by decide) kf_RX12_467 rfl (hc2.1 c3).1 ?_
    refine X_bipush dX12_map_15 (by decide) (by decide) ?_
    refine X_icmp_ne dX12_map_17 (tgt := 23) rfl (fun c4 => ?_) (fun c4 => ?_)
    · refine X_aload_n dX12_map_23 rfl ?_
      refine X_iload_n dX12_map_24 rfl ?_
      refine X_iload_n dX12_map_25 rfl ?_
      refine X_invV (ci := 12) (as := [vi x1, vi x2]) (st := []) okX12_uses dX12_map_26 km_RX12_455 rfl rfl (Nat.le_of_ble_eq_true rfl) rfl rfl (hc2.1 c3).1 (CT.imp ((hc2.1 c3).2.1 c4) (fun z5 S5 V5 mc5 ms5 hc6 => ?_))
      refine X_bipush dX12_map_29 (by decide) (by decide) ?_
      refine X_icmp_ne dX12_map_31 (tgt := 37) rfl (fun c7 => ?_) (fun c7 => ?_)
      · refine X_aload_n dX12_map_37 rfl ?_
        refine X_getfield (ci := 12) (k := 73) (v := vr (V5 x0 73)) dX12_map_38 rfl (by decide) kf_RX12_164 rfl (hc6.1 c7).1 ?_
        refine X_aload_n dX12_map_41 rfl ?_
        refine X_getfield (ci := 12) (k := 76) (v := vi (V5 x0 76)) dX12_map_42 rfl (by decide) kf_RX12_467 rfl (hc6.1 c7).1 ?_
        refine X_bipush dX12_map_45 (by decide) (by decide) ?_
        refine X_iload_n dX12_map_47 rfl ?_
        refine X_imulN dX12_map_48 (hc6.1 c7).2.1 (hc6.1 c7).2.2.1 ?_
        refine X_iload_n dX12_map_49 rfl ?_
        refine X_iaddN dX12_map_50 (hc6.1 c7).2.2.2.1 (hc6.1 c7).2.2.2.2.1 ?_
        refine X_iastore dX12_map_51 (hc6.1 c7).2.2.2.2.2.1 (hc6.1 c7).2.2.2.2.2.2.1 (hc6.1 c7).2.2.2.2.2.2.2.1 ?_
        refine X_aload_n dX12_map_52 rfl ?_
        refine X_getfield (ci := 12) (k := 74) (v := vr (V5 x0 74)) dX12_map_53 rfl (by decide) kf_RX12_167 (congrArg vr (up_ne (Or.inl (tag_ne (hc6.1 c7).1 (hc6.1 c7).2.2.2.2.2.1 (by decide))))) (hc6.1 c7).1 ?_
        refine X_aload_n dX12_map_56 rfl ?_
        refine X_getfield (ci := 12) (k := 76) (v := vi (V5 x0 76)) dX12_map_57 rfl (by decide) kf_RX12_467 (congrArg vi (up_ne (Or.inl (tag_ne (hc6.1 c7).1 (hc6.1 c7).2.2.2.2.2.1 (by decide))))) (hc6.1 c7).1 ?_
        refine X_iconst dX12_map_60 (by decide) ?_
        refine X_iastore dX12_map_61 (hc6.1 c7).2.2.2.2.2.2.2.2.1 (hc6.1 c7).2.2.2.2.2.2.1 (hc6.1 c7).2.2.2.2.2.2.2.2.2.1 ?_
        refine X_aload_n dX12_map_62 rfl ?_
        refine X_dup dX12_map_63 (rv_cat _) ?_
        refine X_getfield (ci := 12) (k := 76) (v := vi (V5 x0 76)) dX12_map_64 rfl (by decide) kf_RX12_467 (congrArg vi ((up_ne (Or.inl (tag_ne (hc6.1 c7).1 (hc6.1 c7).2.2.2.2.2.2.2.2.1 (by decide)))).trans (up_ne (Or.inl (tag_ne (hc6.1 c7).1 (hc6.1 c7).2.2.2.2.2.1 (by decide)))))) (hc6.1 c7).1 ?_
        refine X_iconst dX12_map_67 (by decide) ?_
        refine X_iaddN dX12_map_68 (hc6.1 c7).2.2.2.2.2.2.2.2.2.2.1 (hc6.1 c7).2.2.2.2.2.2.2.2.2.2.2.1 ?_
        refine X_putfield (ci := 12) (k := 76) (z := ((V5 x0 76) + 1)) dX12_map_69 rfl (by decide) kf_RX12_467 (Or.inl rfl) (Or.inl rfl) rfl (fun hv => hv) (hc6.1 c7).1 ?_
        refine X_aload_n dX12_map_72 rfl ?_
        refine X_getfield (ci := 12) (k := 76) (v := vi ((V5 x0 76) + 1)) dX12_map_73 rfl (by decide) kf_RX12_467 (congrArg vi up_eq) (hc6.1 c7).1 ?_
        refine X_iconst dX12_map_76 (by decide) ?_
        refine X_isubN dX12_map_77 (hc6.1 c7).2.2.2.2.2.2.2.2.2.2.2.2.1 (hc6.1 c7).2.2.2.2.2.2.2.2.2.2.2.2.2.1 ?_
        exact X_ret (z := (((V5 x0 76) + 1) - 1)) dX12_map_78 rfl (fun hv => vok_h hv) (hc6.1 c7).2.2.2.2.2.2.2.2.2.2.2.2.2.2
      · refine X_bipush dX12_map_34 (by decide) (by decide) ?_
        exact X_ret (z := (-3)) dX12_map_36 rfl (fun hv => vok_h hv) (hc6.2 c7)
    · refine X_bipush dX12_map_20 (by decide) (by decide) ?_
      exact X_ret (z := (-2)) dX12_map_22 rfl (fun hv => vok_h hv) ((hc2.1 c3).2.2 c4)
  · refine X_iconst dX12_map_9 (by decide) ?_
    exact X_ret (z := (-1)) dX12_map_10 rfl (fun hv => vok_h hv) (hc2.2 c3)
theorem qX12_map {l : Launch} {G : GT} {Q : Int → Sh → Mem → Prop} {d : Nat} {S : Sh} {V : Mem} {mc ms : Nat} {x0 x1 x2 : Int} (h : 0 ≤ x0 → inI x1 → inI x2 → XJ l G bX12_map Q d 0 [vr x0, vi x1, vi x2] [] S V mc ms) : Ct l G bX12_map Q d mc ms [vr x0, vi x1, vi x2] S V := Ct.of okX12_map.1 trivial (Nat.le_of_ble_eq_true rfl) (fun hv => h (hv _ (List.mem_of_getElem? (i := 0) rfl)) (hv _ (List.mem_of_getElem? (i := 1) rfl)) (hv _ (List.mem_of_getElem? (i := 2) rfl)))
set_option maxRecDepth 10000 in
theorem vX12_isMapped_0 {l : Launch} {G : GT} {Q : Int → Sh → Mem → Prop} {d : Nat} {S : Sh} {V : Mem} {mc ms : Nat} {x0 x1 x2 : Int} (h : (x1 < 0 → Q 0 S V) ∧ (¬ (x1 < 0) → S.1 x0 = 13 ∧ ((V x0 76) ≤ x1 → Q 0 S V) ∧ (¬ ((V x0 76) ≤ x1) → (x2 < 0 → Q 0 S V) ∧ (¬ (x2 < 0) → S.1 (V x0 73) = 20 ∧ 0 ≤ x1 ∧ x1 < S.2.1 (V x0 73) ∧ S.1 (V x0 14) = 20 ∧ 0 ≤ (V (V x0 73) x1) ∧ (V (V x0 73) x1) < S.2.1 (V x0 14) ∧ ((V (V x0 14) (V (V x0 73) x1)) ≤ x2 → Q 0 S V) ∧ (¬ ((V (V x0 14) (V (V x0 73) x1)) ≤ x2) → Q 1 S V))))) : XJ l G bX12_isMapped Q d 0 [vr x0, vi x1, vi x2] [] S V mc ms := by
  refine X_iload_n dX12_isMapped_0 rfl ?_
  refine X_if_lt dX12_isMapped_1 (tgt := 35) rfl (fun c1 => ?_) (fun c1 => ?_)
  · refine X_iconst dX12_isMapped_35 (by decide) ?_
    exact X_ret (z := 0) dX12_isMapped_36 rfl (fun _ => Or.inl rfl) (h.1 c1)
  · refine X_iload_n dX12_isMapped_4 rfl ?_
    refine X_aload_n dX12_isMapped_5 rfl ?_
    refine X_getfield (ci := 12) (k := 76) (v := vi (V x0 76)) dX12_isMapped_6 rfl (by decide) kf_RX12_467 rfl (h.2 c1).1 ?_
    refine X_icmp_ge dX12_isMapped_9 (tgt := 35) rfl (fun c2 => ?_) (fun c2 => ?_)
    · refine X_iconst dX12_isMapped_35 (by decide) ?_
      exact X_ret (z := 0) dX12_isMapped_36 rfl (fun _ => Or.inl rfl) ((h.2 c1).2.1 c2)
    · refine X_iload_n dX12_isMapped_12 rfl ?_
      refine X_if_lt dX12_isMapped_13 (tgt := 35) rfl (fun c3 => ?_) (fun c3 => ?_)
      · refine X_iconst dX12_isMapped_35 (by decide) ?_
        exact X_ret (z := 0) dX12_isMapped_36 rfl (fun _ => Or.inl rfl) (((h.2 c1).2.2 c2).1 c3)
      · refine X_iload_n dX12_isMapped_16 rfl ?_
        refine X_aload_n dX12_isMapped_17 rfl ?_
        refine X_getfield (ci := 12) (k := 14) (v := vr (V x0 14)) dX12_isMapped_18 rfl (by decide) kf_RX12_29 rfl (h.2 c1).1 ?_
        refine X_aload_n dX12_isMapped_21 rfl ?_
        refine X_getfield (ci := 12) (k := 73) (v := vr (V x0 73)) dX12_isMapped_22 rfl (by decide) kf_RX12_164 rfl (h.2 c1).1 ?_
        refine X_iload_n dX12_isMapped_25 rfl ?_
        refine X_iaload dX12_isMapped_26 (((h.2 c1).2.2 c2).2 c3).1 (((h.2 c1).2.2 c2).2 c3).2.1 (((h.2 c1).2.2 c2).2 c3).2.2.1 ?_
        refine X_iaload dX12_isMapped_27 (((h.2 c1).2.2 c2).2 c3).2.2.2.1 (((h.2 c1).2.2 c2).2 c3).2.2.2.2.1 (((h.2 c1).2.2 c2).2 c3).2.2.2.2.2.1 ?_
        refine X_icmp_ge dX12_isMapped_28 (tgt := 35) rfl (fun c4 => ?_) (fun c4 => ?_)
        · refine X_iconst dX12_isMapped_35 (by decide) ?_
          exact X_ret (z := 0) dX12_isMapped_36 rfl (fun _ => Or.inl rfl) ((((h.2 c1).2.2 c2).2 c3).2.2.2.2.2.2.1 c4)
        · refine X_iconst dX12_isMapped_31 (by decide) ?_
          refine X_goto dX12_isMapped_32 (tgt := 36) rfl ?_
          exact X_ret (z := 1) dX12_isMapped_36 rfl (fun _ => Or.inr rfl) ((((h.2 c1).2.2 c2).2 c3).2.2.2.2.2.2.2 c4)
theorem qX12_isMapped {l : Launch} {G : GT} {Q : Int → Sh → Mem → Prop} {d : Nat} {S : Sh} {V : Mem} {mc ms : Nat} {x0 x1 x2 : Int} (h : 0 ≤ x0 → inI x1 → inI x2 → XJ l G bX12_isMapped Q d 0 [vr x0, vi x1, vi x2] [] S V mc ms) : Ct l G bX12_isMapped Q d mc ms [vr x0, vi x1, vi x2] S V := Ct.of okX12_isMapped.1 trivial (Nat.le_of_ble_eq_true rfl) (fun hv => h (hv _ (List.mem_of_getElem? (i := 0) rfl)) (hv _ (List.mem_of_getElem? (i := 1) rfl)) (hv _ (List.mem_of_getElem? (i := 2) rfl)))
set_option maxRecDepth 10000 in
theorem vX12_put_0 {l : Launch} {G : GT} {Q : Int → Sh → Mem → Prop} {d : Nat} {S : Sh} {V : Mem} {mc ms : Nat} {x0 x1 x2 x3 : Int} (h : S.1 x0 = 13 ∧ CT l G bX12_isMapped d mc ms [vr x0, vi x1, vi x2] S V (fun z1 S1 V1 mc1 ms1 => (z1 ≠ 0 → S1.1 x0 = 13 ∧ S1.1 (V1 x0 74) = 20 ∧ 0 ≤ x1 ∧ x1 < S1.2.1 (V1 x0 74) ∧ -2147483648 ≤ 24 * x1 ∧ 24 * x1 ≤ 2147483647 ∧ -2147483648 ≤ (24 * x1) + x2 ∧ (24 * x1) + x2 ≤ 2147483647 ∧ S1.1 (V1 x0 75) = 20 ∧ 0 ≤ ((24 * x1) + x2) ∧ ((24 * x1) + x2) < S1.2.1 (V1 x0 75) ∧ -2147483648 ≤ 1 - (bAnd (bShr (V1 (V1 x0 74) x1) x2) 1) ∧ 1 - (bAnd (bShr (V1 (V1 x0 74) x1) x2) 1) ≤ 2147483647 ∧ Q (1 - (bAnd (bShr (V1 (V1 x0 74) x1) x2) 1)) S1 (up (up V1 (V1 x0 74) x1 (bOr (V1 (V1 x0 74) x1) (bShl 1 x2))) (V1 x0 75) ((24 * x1) + x2) x3)) ∧ (¬ (z1 ≠ 0) → Q (-1) S1 V1))) : XJ l G bX12_put Q d 0 [vr x0, vi x1, vi x2, vi x3, vu] [] S V mc ms := by
  refine X_aload_n dX12_put_0 rfl ?_
  refine X_iload_n dX12_put_1 rfl ?_
  refine X_iload_n dX12_put_2 rfl ?_
  refine X_invV (ci := 12) (as := [vi x1, vi x2]) (st := []) okX12_isMapped dX12_put_3 km_RX12_470 rfl rfl (Nat.le_of_ble_eq_true rfl) rfl rfl h.1 (CT.imp h.2 (fun z1 S1 V1 mc1 ms1 hc2 => ?_))
  refine X_if_ne dX12_put_6 (tgt := 11) rfl (fun c3 => ?_) (fun c3 => ?_)
  · refine X_aload_n dX12_put_11 rfl ?_
    refine X_getfield (ci := 12) (k := 74) (v := vr (V1 x0 74)) dX12_put_12 rfl (by decide) kf_RX12_167 rfl (hc2.1 c3).1 ?_
    refine X_iload_n dX12_put_15 rfl ?_
    refine X_iaload dX12_put_16 (hc2.1 c3).2.1 (hc2.1 c3).2.2.1 (hc2.1 c3).2.2.2.1 ?_
    refine X_iload_n dX12_put_17 rfl ?_
    refine X_ishr dX12_put_18 ?_
    refine X_iconst dX12_put_19 (by decide) ?_
    refine X_iand dX12_put_20 ?_
    refine X_istore dX12_put_21 (by decide) rfl ?_
    refine X_aload_n dX12_put_23 rfl ?_
    refine X_getfield (ci := 12) (k := 74) (v := vr (V1 x0 74)) dX12_put_24 rfl (by decide) kf_RX12_167 rfl (hc2.1 c3).1 ?_
    refine X_iload_n dX12_put_27 rfl ?_
    refine X_dup2 dX12_put_28 rfl (rv_cat _) ?_
    refine X_iaload dX12_put_29 (hc2.1 c3).2.1 (hc2.1 c3).2.2.1 (hc2.1 c3).2.2.2.1 ?_
    refine X_iconst dX12_put_30 (by decide) ?_
    refine X_iload_n dX12_put_31 rfl ?_
    refine X_ishl dX12_put_32 ?_
    refine X_ior dX12_put_33 ?_
    refine X_iastore dX12_put_34 (hc2.1 c3).2.1 (hc2.1 c3).2.2.1 (hc2.1 c3).2.2.2.1 ?_
    refine X_aload_n dX12_put_35 rfl ?_
    refine X_getfield (ci := 12) (k := 75) (v := vr (V1 x0 75)) dX12_put_36 rfl (by decide) kf_RX12_170 (congrArg vr (up_ne (Or.inl (tag_ne (hc2.1 c3).1 (hc2.1 c3).2.1 (by decide))))) (hc2.1 c3).1 ?_
    refine X_bipush dX12_put_39 (by decide) (by decide) ?_
    refine X_iload_n dX12_put_41 rfl ?_
    refine X_imulN dX12_put_42 (hc2.1 c3).2.2.2.2.1 (hc2.1 c3).2.2.2.2.2.1 ?_
    refine X_iload_n dX12_put_43 rfl ?_
    refine X_iaddN dX12_put_44 (hc2.1 c3).2.2.2.2.2.2.1 (hc2.1 c3).2.2.2.2.2.2.2.1 ?_
    refine X_iload_n dX12_put_45 rfl ?_
    refine X_iastore dX12_put_46 (hc2.1 c3).2.2.2.2.2.2.2.2.1 (hc2.1 c3).2.2.2.2.2.2.2.2.2.1 (hc2.1 c3).2.2.2.2.2.2.2.2.2.2.1 ?_
    refine X_iconst dX12_put_47 (by decide) ?_
    refine X_iload dX12_put_48 rfl ?_
    refine X_isubN dX12_put_50 (hc2.1 c3).2.2.2.2.2.2.2.2.2.2.2.1 (hc2.1 c3).2.2.2.2.2.2.2.2.2.2.2.2.1 ?_
    exact X_ret (z := (1 - (bAnd (bShr (V1 (V1 x0 74) x1) x2) 1))) dX12_put_51 rfl (fun hv => vok_h hv) (hc2.1 c3).2.2.2.2.2.2.2.2.2.2.2.2.2
  · refine X_iconst dX12_put_9 (by decide) ?_
    exact X_ret (z := (-1)) dX12_put_10 rfl (fun hv => vok_h hv) (hc2.2 c3)
theorem qX12_put {l : Launch} {G : GT} {Q : Int → Sh → Mem → Prop} {d : Nat} {S : Sh} {V : Mem} {mc ms : Nat} {x0 x1 x2 x3 : Int} (h : 0 ≤ x0 → inI x1 → inI x2 → inI x3 → XJ l G bX12_put Q d 0 [vr x0, vi x1, vi x2, vi x3, vu] [] S V mc ms) : Ct l G bX12_put Q d mc ms [vr x0, vi x1, vi x2, vi x3] S V := Ct.of okX12_put.1 trivial (Nat.le_of_ble_eq_true rfl) (fun hv => h (hv _ (List.mem_of_getElem? (i := 0) rfl)) (hv _ (List.mem_of_getElem? (i := 1) rfl)) (hv _ (List.mem_of_getElem? (i := 2) rfl)) (hv _ (List.mem_of_getElem? (i := 3) rfl)))
set_option maxRecDepth 10000 in
theorem vX12_get_0 {l : Launch} {G : GT} {Q : Int → Sh → Mem → Prop} {d : Nat} {S : Sh} {V : Mem} {mc ms : Nat} {x0 x1 x2 : Int} (h : S.1 x0 = 13 ∧ CT l G bX12_isMapped d mc ms [vr x0, vi x1, vi x2] S V (fun z1 S1 V1 mc1 ms1 => (z1 ≠ 0 → S1.1 x0 = 13 ∧ S1.1 (V1 x0 74) = 20 ∧ 0 ≤ x1 ∧ x1 < S1.2.1 (V1 x0 74) ∧ ((bAnd (bShr (V1 (V1 x0 74) x1) x2) 1) ≠ 0 → -2147483648 ≤ 24 * x1 ∧ 24 * x1 ≤ 2147483647 ∧ -2147483648 ≤ (24 * x1) + x2 ∧ (24 * x1) + x2 ≤ 2147483647 ∧ S1.1 (V1 x0 75) = 20 ∧ 0 ≤ ((24 * x1) + x2) ∧ ((24 * x1) + x2) < S1.2.1 (V1 x0 75) ∧ Q 1 S1 (up V1 x0 69 (V1 (V1 x0 75) ((24 * x1) + x2)))) ∧ (¬ ((bAnd (bShr (V1 (V1 x0 74) x1) x2) 1) ≠ 0) → Q 0 S1 V1)) ∧ (¬ (z1 ≠ 0) → Q (-1) S1 V1))) : XJ l G bX12_get Q d 0 [vr x0, vi x1, vi x2] [] S V mc ms := by
  refine X_aload_n dX12_get_0 rfl ?_
  refine X_iload_n dX12_get_1 rfl ?_
  refine X_iload_n dX12_get_2 rfl ?_
  refine X_invV (ci := 12) (as := [vi x1, vi x2]) (st := []) okX12_isMapped dX12_get_3 km_RX12_470 rfl rfl (Nat.le_of_ble_eq_true rfl) rfl rfl h.1 (CT.imp h.2 (fun z1 S1 V1 mc1 ms1 hc2 => ?_))
  refine X_if_ne dX12_get_6 (tgt := 11) rfl (fun c3 => ?_) (fun c3 => ?_)
  · refine X_aload_n dX12_get_11 rfl ?_
    refine X_getfield (ci := 12) (k := 74) (v := vr (V1 x0 74)) dX12_get_12 rfl (by decide) kf_RX12_167 rfl (hc2.1 c3).1 ?_
    refine X_iload_n dX12_get_15 rfl ?_
    refine X_iaload dX12_get_16 (hc2.1 c3).2.1 (hc2.1 c3).2.2.1 (hc2.1 c3).2.2.2.1 ?_
    refine X_iload_n dX12_get_17 rfl ?_
    refine X_ishr dX12_get_18 ?_
    refine X_iconst dX12_get_19 (by decide) ?_
    refine X_iand dX12_get_20 ?_
    refine X_if_ne dX12_get_21 (tgt := 26) rfl (fun c4 => ?_) (fun c4 => ?_)
    · refine X_aload_n dX12_get_26 rfl ?_
      refine X_aload_n dX12_get_27 rfl ?_
      refine X_getfield (ci := 12) (k := 75) (v := vr (V1 x0 75)) dX12_get_28 rfl (by decide) kf_RX12_170 rfl (hc2.1 c3).1 ?_
      refine X_bipush dX12_get_31 (by decide) (by decide) ?_
      refine X_iload_n dX12_get_33 rfl ?_
      refine X_imulN dX12_get_34 ((hc2.1 c3).2.2.2.2.1 c4).1 ((hc2.1 c3).2.2.2.2.1 c4).2.1 ?_
      refine X_iload_n dX12_get_35 rfl ?_
      refine X_iaddN dX12_get_36 ((hc2.1 c3).2.2.2.2.1 c4).2.2.1 ((hc2.1 c3).2.2.2.2.1 c4).2.2.2.1 ?_
      refine X_iaload dX12_get_37 ((hc2.1 c3).2.2.2.2.1 c4).2.2.2.2.1 ((hc2.1 c3).2.2.2.2.1 c4).2.2.2.2.2.1 ((hc2.1 c3).2.2.2.2.1 c4).2.2.2.2.2.2.1 ?_
      refine X_putfield (ci := 12) (k := 69) (z := (V1 (V1 x0 75) ((24 * x1) + x2))) dX12_get_38 rfl (by decide) kf_RX12_442 (Or.inl rfl) (Or.inl rfl) rfl (fun hv => hv) (hc2.1 c3).1 ?_
      refine X_iconst dX12_get_41 (by decide) ?_
      exact X_ret (z := 1) dX12_get_42 rfl (fun hv => vok_h hv) ((hc2.1 c3).2.2.2.2.1 c4).2.2.2.2.2.2.2
    · refine X_iconst dX12_get_24 (by decide) ?_
      exact X_ret (z := 0) dX12_get_25 rfl (fun hv => vok_h hv) ((hc2.1 c3).2.2.2.2.2 c4)
  · refine X_iconst dX12_get_9 (by decide) ?_
    exact X_ret (z := (-1)) dX12_get_10 rfl (fun hv => vok_h hv) (hc2.2 c3)
theorem qX12_get {l : Launch} {G : GT} {Q : Int → Sh → Mem → Prop} {d : Nat} {S : Sh} {V : Mem} {mc ms : Nat} {x0 x1 x2 : Int} (h : 0 ≤ x0 → inI x1 → inI x2 → XJ l G bX12_get Q d 0 [vr x0, vi x1, vi x2] [] S V mc ms) : Ct l G bX12_get Q d mc ms [vr x0, vi x1, vi x2] S V := Ct.of okX12_get.1 trivial (Nat.le_of_ble_eq_true rfl) (fun hv => h (hv _ (List.mem_of_getElem? (i := 0) rfl)) (hv _ (List.mem_of_getElem? (i := 1) rfl)) (hv _ (List.mem_of_getElem? (i := 2) rfl)))
set_option maxRecDepth 10000 in
theorem vX12_constantHere_0 {l : Launch} {G : GT} {Q : Int → Sh → Mem → Prop} {d : Nat} {S : Sh} {V : Mem} {mc ms : Nat} {x0 x1 : Int} (h : S.1 x0 = 13 ∧ CT l G bX12_isName d mc ms [vr x0] S V (fun z1 S1 V1 mc1 ms1 => (z1 ≠ 0 → -2147483648 ≤ 12 * x1 ∧ 12 * x1 ≤ 2147483647 ∧ XJ l G bX12_constantHere Q d 14 [vr x0, vi x1, vi (12 * x1), vu, vu, vu, vu] [] S1 V1 mc1 ms1) ∧ (¬ (z1 ≠ 0) → Q (-1) S1 V1))) : XJ l G bX12_constantHere Q d 0 [vr x0, vi x1, vu, vu, vu, vu, vu] [] S V mc ms := by
  refine X_aload_n dX12_constantHere_0 rfl ?_
  refine X_invV (ci := 12) (as := []) (st := []) okX12_isName dX12_constantHere_1 km_RX12_291 rfl rfl (Nat.le_of_ble_eq_true rfl) rfl rfl h.1 (CT.imp h.2 (fun z1 S1 V1 mc1 ms1 hc2 => ?_))
  refine X_if_ne dX12_constantHere_4 (tgt := 9) rfl (fun c3 => ?_) (fun c3 => ?_)
  · refine X_bipush dX12_constantHere_9 (by decide) (by decide) ?_
    refine X_iload_n dX12_constantHere_11 rfl ?_
    refine X_imulN dX12_constantHere_12 (hc2.1 c3).1 (hc2.1 c3).2.1 ?_
    refine X_istore_n dX12_constantHere_13 (by decide) rfl ?_
    exact (hc2.1 c3).2.2
  · refine X_iconst dX12_constantHere_7 (by decide) ?_
    exact X_ret (z := (-1)) dX12_constantHere_8 rfl (fun hv => vok_h hv) (hc2.2 c3)
set_option maxRecDepth 10000 in
theorem vX12_constantHere_14 {l : Launch} {G : GT} {Q : Int → Sh → Mem → Prop} {d : Nat} {S : Sh} {V : Mem} {mc ms : Nat} {x0 x1 x2 : Int} (h : -2147483648 ≤ 12 * x1 ∧ 12 * x1 ≤ 2147483647 ∧ S.1 x0 = 13 ∧ S.1 (V x0 10) = 20 ∧ 0 ≤ x1 ∧ x1 < S.2.1 (V x0 10) ∧ -2147483648 ≤ (12 * x1) + (V (V x0 10) x1) ∧ (12 * x1) + (V (V x0 10) x1) ≤ 2147483647 ∧ (((12 * x1) + (V (V x0 10) x1)) ≤ x2 → Q (-1) S V) ∧ (¬ (((12 * x1) + (V (V x0 10) x1)) ≤ x2) → -2147483648 ≤ 24 * x2 ∧ 24 * x2 ≤ 2147483647 ∧ XJ l G bX12_constantHere Q d 34 [vr x0, vi x1, vi x2, vi (24 * x2), vu, vu, vu] [] S V mc ms)) : XJ l G bX12_constantHere Q d 14 [vr x0, vi x1, vi x2, vu, vu, vu, vu] [] S V mc ms := by
  refine X_iload_n dX12_constantHere_14 rfl ?_
  refine X_bipush dX12_constantHere_15 (by decide) (by decide) ?_
  refine X_iload_n dX12_constantHere_17 rfl ?_
  refine X_imulN dX12_constantHere_18 h.1 h.2.1 ?_
  refine X_aload_n dX12_constantHere_19 rfl ?_
  refine X_getfield (ci := 12) (k := 10) (v := vr (V x0 10)) dX12_constantHere_20 rfl (by decide) kf_RX12_16 rfl h.2.2.1 ?_
  refine X_iload_n dX12_constantHere_23 rfl ?_
  refine X_iaload dX12_constantHere_24 h.2.2.2.1 h.2.2.2.2.1 h.2.2.2.2.2.1 ?_
  refine X_iaddN dX12_constantHere_25 h.2.2.2.2.2.2.1 h.2.2.2.2.2.2.2.1 ?_
  refine X_icmp_ge dX12_constantHere_26 (tgt := 159) rfl (fun c1 => ?_) (fun c1 => ?_)
  · refine X_iconst dX12_constantHere_159 (by decide) ?_
    exact X_ret (z := (-1)) dX12_constantHere_160 rfl (fun hv => vok_h hv) (h.2.2.2.2.2.2.2.2.1 c1)
  · refine X_bipush dX12_constantHere_29 (by decide) (by decide) ?_
    refine X_iload_n dX12_constantHere_31 rfl ?_
    refine X_imulN dX12_constantHere_32 (h.2.2.2.2.2.2.2.2.2 c1).1 (h.2.2.2.2.2.2.2.2.2 c1).2.1 ?_
    refine X_istore_n dX12_constantHere_33 (by decide) rfl ?_
    exact (h.2.2.2.2.2.2.2.2.2 c1).2.2
set_option maxRecDepth 10000 in
theorem vX12_constantHere_34 {l : Launch} {G : GT} {Q : Int → Sh → Mem → Prop} {d : Nat} {S : Sh} {V : Mem} {mc ms : Nat} {x0 x1 x2 x3 : Int} (h : -2147483648 ≤ 24 * x2 ∧ 24 * x2 ≤ 2147483647 ∧ S.1 x0 = 13 ∧ S.1 (V x0 14) = 20 ∧ 0 ≤ x2 ∧ x2 < S.2.1 (V x0 14) ∧ -2147483648 ≤ (24 * x2) + (V (V x0 14) x2) ∧ (24 * x2) + (V (V x0 14) x2) ≤ 2147483647 ∧ (((24 * x2) + (V (V x0 14) x2)) ≤ x3 → -2147483648 ≤ x2 + 1 ∧ x2 + 1 ≤ 2147483647 ∧ XJ l G bX12_constantHere Q d 14 [vr x0, vi x1, vi (x2 + 1), vu, vu, vu, vu] [] S V mc ms) ∧ (¬ (((24 * x2) + (V (V x0 14) x2)) ≤ x3) → S.1 (V x0 20) = 20 ∧ 0 ≤ x3 ∧ x3 < S.2.1 (V x0 20) ∧ -2147483648 ≤ (V x0 5) - (V x0 4) ∧ (V x0 5) - (V x0 4) ≤ 2147483647 ∧ (((V (V x0 20) x3).tmod 16) ≠ ((V x0 5) - (V x0 4)) → XJ l G bX12_constantHere Q d 84 [vr x0, vi x1, vi x2, vi x3, vi (V (V x0 20) x3), vi 0, vi 0] [] S V mc ms) ∧ (¬ (((V (V x0 20) x3).tmod 16) ≠ ((V x0 5) - (V x0 4))) → XJ l G bX12_constantHere Q d 84 [vr x0, vi x1, vi x2, vi x3, vi (V (V x0 20) x3), vi 1, vi 0] [] S V mc ms))) : XJ l G bX12_constantHere Q d 34 [vr x0, vi x1, vi x2, vi x3, vu, vu, vu] [] S V mc ms := by
  refine X_iload_n dX12_constantHere_34 rfl ?_
  refine X_bipush dX12_constantHere_35 (by decide) (by decide) ?_
  refine X_iload_n dX12_constantHere_37 rfl ?_
  refine X_imulN dX12_constantHere_38 h.1 h.2.1 ?_
  refine X_aload_n dX12_constantHere_39 rfl ?_
  refine X_getfield (ci := 12) (k := 14) (v := vr (V x0 14)) dX12_constantHere_40 rfl (by decide) kf_RX12_29 rfl h.2.2.1 ?_
  refine X_iload_n dX12_constantHere_43 rfl ?_
  refine X_iaload dX12_constantHere_44 h.2.2.2.1 h.2.2.2.2.1 h.2.2.2.2.2.1 ?_
  refine X_iaddN dX12_constantHere_45 h.2.2.2.2.2.2.1 h.2.2.2.2.2.2.2.1 ?_
  refine X_icmp_ge dX12_constantHere_46 (tgt := 153) rfl (fun c1 => ?_) (fun c1 => ?_)
  · refine X_iincN dX12_constantHere_153 rfl (by decide) rfl (e := x2 + 1) rfl (h.2.2.2.2.2.2.2.2.1 c1).1 (h.2.2.2.2.2.2.2.2.1 c1).2.1 ?_
    refine X_goto dX12_constantHere_156 (tgt := 14) rfl ?_
    exact X_weak [false, false, false, true, false, false, false] (h.2.2.2.2.2.2.2.2.1 c1).2.2
  · refine X_aload_n dX12_constantHere_49 rfl ?_
    refine X_getfield (ci := 12) (k := 20) (v := vr (V x0 20)) dX12_constantHere_50 rfl (by decide) kf_RX12_47 rfl h.2.2.1 ?_
    refine X_iload_n dX12_constantHere_53 rfl ?_
    refine X_iaload dX12_constantHere_54 (h.2.2.2.2.2.2.2.2.2 c1).1 (h.2.2.2.2.2.2.2.2.2 c1).2.1 (h.2.2.2.2.2.2.2.2.2 c1).2.2.1 ?_
    refine X_istore dX12_constantHere_55 (by decide) rfl ?_
    refine X_iload dX12_constantHere_57 rfl ?_
    refine X_bipush dX12_constantHere_59 (by decide) (by decide) ?_
    refine X_iremP dX12_constantHere_61 (by decide) ?_
    refine X_aload_n dX12_constantHere_62 rfl ?_
    refine X_getfield (ci := 12) (k := 5) (v := vi (V x0 5)) dX12_constantHere_63 rfl (by decide) kf_RX12_195 rfl h.2.2.1 ?_
    refine X_aload_n dX12_constantHere_66 rfl ?_
    refine X_getfield (ci := 12) (k := 4) (v := vi (V x0 4)) dX12_constantHere_67 rfl (by decide) kf_RX12_198 rfl h.2.2.1 ?_
    refine X_isubN dX12_constantHere_70 (h.2.2.2.2.2.2.2.2.2 c1).2.2.2.1 (h.2.2.2.2.2.2.2.2.2 c1).2.2.2.2.1 ?_
    refine X_icmp_ne dX12_constantHere_71 (tgt := 78) rfl (fun c2 => ?_) (fun c2 => ?_)
    · refine X_iconst dX12_constantHere_78 (by decide) ?_
      refine X_istore dX12_constantHere_79 (by decide) rfl ?_
      refine X_iconst dX12_constantHere_81 (by decide) ?_
      refine X_istore dX12_constantHere_82 (by decide) rfl ?_
      exact ((h.2.2.2.2.2.2.2.2.2 c1).2.2.2.2.2.1 c2)
    · refine X_iconst dX12_constantHere_74 (by decide) ?_
      refine X_goto dX12_constantHere_75 (tgt := 79) rfl ?_
      refine X_istore dX12_constantHere_79 (by decide) rfl ?_
      refine X_iconst dX12_constantHere_81 (by decide) ?_
      refine X_istore dX12_constantHere_82 (by decide) rfl ?_
      exact ((h.2.2.2.2.2.2.2.2.2 c1).2.2.2.2.2.2 c2)
set_option maxRecDepth 10000 in
theorem vX12_constantHere_84 {l : Launch} {G : GT} {Q : Int → Sh → Mem → Prop} {d : Nat} {S : Sh} {V : Mem} {mc ms : Nat} {x0 x1 x2 x3 x4 x5 x6 : Int} (h : ((x4.tmod 16) ≤ x6 → (x5 = 0 → -2147483648 ≤ x3 + 1 ∧ x3 + 1 ≤ 2147483647 ∧ XJ l G bX12_constantHere Q d 34 [vr x0, vi x1, vi x2, vi (x3 + 1), vu, vu, vu] [] S V mc ms) ∧ (¬ (x5 = 0) → Q x3 S V)) ∧ (¬ ((x4.tmod 16) ≤ x6) → (x5 = 0 → (x5 = 0 → -2147483648 ≤ x3 + 1 ∧ x3 + 1 ≤ 2147483647 ∧ XJ l G bX12_constantHere Q d 34 [vr x0, vi x1, vi x2, vi (x3 + 1), vu, vu, vu] [] S V mc ms) ∧ (¬ (x5 = 0) → Q x3 S V)) ∧ (¬ (x5 = 0) → S.1 x0 = 13 ∧ -2147483648 ≤ (x4.tdiv 16) + x6 ∧ (x4.tdiv 16) + x6 ≤ 2147483647 ∧ S.1 (V x0 7) = 21 ∧ 0 ≤ ((x4.tdiv 16) + x6) ∧ ((x4.tdiv 16) + x6) < S.2.1 (V x0 7) ∧ -2147483648 ≤ (V x0 4) + x6 ∧ (V x0 4) + x6 ≤ 2147483647 ∧ S.1 (V x0 1) = 21 ∧ 0 ≤ ((V x0 4) + x6) ∧ ((V x0 4) + x6) < S.2.1 (V x0 1) ∧ ((V (V x0 7) ((x4.tdiv 16) + x6)) ≠ (V (V x0 1) ((V x0 4) + x6)) → -2147483648 ≤ x6 + 1 ∧ x6 + 1 ≤ 2147483647 ∧ XJ l G bX12_constantHere Q d 84 [vr x0, vi x1, vi x2, vi x3, vi x4, vi 0, vi (x6 + 1)] [] S V mc ms) ∧ (¬ ((V (V x0 7) ((x4.tdiv 16) + x6)) ≠ (V (V x0 1) ((V x0 4) + x6))) → -2147483648 ≤ x6 + 1 ∧ x6 + 1 ≤ 2147483647 ∧ XJ l G bX12_constantHere Q d 84 [vr x0, vi x1, vi x2, vi x3, vi x4, vi 1, vi (x6 + 1)] [] S V mc ms)))) : XJ l G bX12_constantHere Q d 84 [vr x0, vi x1, vi x2, vi x3, vi x4, vi x5, vi x6] [] S V mc ms := by
  refine X_iload dX12_constantHere_84 rfl ?_
  refine X_iload dX12_constantHere_86 rfl ?_
  refine X_bipush dX12_constantHere_88 (by decide) (by decide) ?_
  refine X_iremP dX12_constantHere_90 (by decide) ?_
  refine X_icmp_ge dX12_constantHere_91 (tgt := 140) rfl (fun c1 => ?_) (fun c1 => ?_)
  · refine X_iload dX12_constantHere_140 rfl ?_
    refine X_if_eq dX12_constantHere_142 (tgt := 147) rfl (fun c2 => ?_) (fun c2 => ?_)
    · refine X_iincN dX12_constantHere_147 rfl (by decide) rfl (e := x3 + 1) rfl ((h.1 c1).1 c2).1 ((h.1 c1).1 c2).2.1 ?_
      refine X_goto dX12_constantHere_150 (tgt := 34) rfl ?_
      exact X_weak [false, false, false, false, true, true, true] ((h.1 c1).1 c2).2.2
    · refine X_iload_n dX12_constantHere_145 rfl ?_
      exact X_ret (z := x3) dX12_constantHere_146 rfl (fun hv => vok_h hv) ((h.1 c1).2 c2)
  · refine X_iload dX12_constantHere_94 rfl ?_
    refine X_if_eq dX12_constantHere_96 (tgt := 140) rfl (fun c3 => ?_) (fun c3 => ?_)
    · refine X_iload dX12_constantHere_140 rfl ?_
      refine X_if_eq dX12_constantHere_142 (tgt := 147) rfl (fun c4 => ?_) (fun c4 => ?_)
      · refine X_iincN dX12_constantHere_147 rfl (by decide) rfl (e := x3 + 1) rfl (((h.2 c1).1 c3).1 c4).1 (((h.2 c1).1 c3).1 c4).2.1 ?_
        refine X_goto dX12_constantHere_150 (tgt := 34) rfl ?_
        exact X_weak [false, false, false, false, true, true, true] (((h.2 c1).1 c3).1 c4).2.2
      · refine X_iload_n dX12_constantHere_145 rfl ?_
        exact X_ret (z := x3) dX12_constantHere_146 rfl (fun hv => vok_h hv) (((h.2 c1).1 c3).2 c4)
    · refine X_aload_n dX12_constantHere_99 rfl ?_
      refine X_getfield (ci := 12) (k := 7) (v := vr (V x0 7)) dX12_constantHere_100 rfl (by decide) kf_RX12_13 rfl ((h.2 c1).2 c3).1 ?_
      refine X_iload dX12_constantHere_103 rfl ?_
      refine X_bipush dX12_constantHere_105 (by decide) (by decide) ?_
      refine X_idivP dX12_constantHere_107 (by decide) ?_
      refine X_iload dX12_constantHere_108 rfl ?_
      refine X_iaddN dX12_constantHere_110 ((h.2 c1).2 c3).2.1 ((h.2 c1).2 c3).2.2.1 ?_
      refine X_baload dX12_constantHere_111 ((h.2 c1).2 c3).2.2.2.1 ((h.2 c1).2 c3).2.2.2.2.1 ((h.2 c1).2 c3).2.2.2.2.2.1 ?_
      refine X_aload_n dX12_constantHere_112 rfl ?_
      refine X_getfield (ci := 12) (k := 1) (v := vr (V x0 1)) dX12_constantHere_113 rfl (by decide) kf_RX12_7 rfl ((h.2 c1).2 c3).1 ?_
      refine X_aload_n dX12_constantHere_116 rfl ?_
      refine X_getfield (ci := 12) (k := 4) (v := vi (V x0 4)) dX12_constantHere_117 rfl (by decide) kf_RX12_198 rfl ((h.2 c1).2 c3).1 ?_
      refine X_iload dX12_constantHere_120 rfl ?_
      refine X_iaddN dX12_constantHere_122 ((h.2 c1).2 c3).2.2.2.2.2.2.1 ((h.2 c1).2 c3).2.2.2.2.2.2.2.1 ?_
      refine X_baload dX12_constantHere_123 ((h.2 c1).2 c3).2.2.2.2.2.2.2.2.1 ((h.2 c1).2 c3).2.2.2.2.2.2.2.2.2.1 ((h.2 c1).2 c3).2.2.2.2.2.2.2.2.2.2.1 ?_
      refine X_icmp_ne dX12_constantHere_124 (tgt := 131) rfl (fun c5 => ?_) (fun c5 => ?_)
      · refine X_iconst dX12_constantHere_131 (by decide) ?_
        refine X_istore dX12_constantHere_132 (by decide) rfl ?_
        refine X_iincN dX12_constantHere_134 rfl (by decide) rfl (e := x6 + 1) rfl (((h.2 c1).2 c3).2.2.2.2.2.2.2.2.2.2.2.1 c5).1 (((h.2 c1).2 c3).2.2.2.2.2.2.2.2.2.2.2.1 c5).2.1 ?_
        refine X_goto dX12_constantHere_137 (tgt := 84) rfl ?_
        exact (((h.2 c1).2 c3).2.2.2.2.2.2.2.2.2.2.2.1 c5).2.2
      · refine X_iconst dX12_constantHere_127 (by decide) ?_
        refine X_goto dX12_constantHere_128 (tgt := 132) rfl ?_
        refine X_istore dX12_constantHere_132 (by decide) rfl ?_
        refine X_iincN dX12_constantHere_134 rfl (by decide) rfl (e := x6 + 1) rfl (((h.2 c1).2 c3).2.2.2.2.2.2.2.2.2.2.2.2 c5).1 (((h.2 c1).2 c3).2.2.2.2.2.2.2.2.2.2.2.2 c5).2.1 ?_
        refine X_goto dX12_constantHere_137 (tgt := 84) rfl ?_
        exact (((h.2 c1).2 c3).2.2.2.2.2.2.2.2.2.2.2.2 c5).2.2
theorem qX12_constantHere {l : Launch} {G : GT} {Q : Int → Sh → Mem → Prop} {d : Nat} {S : Sh} {V : Mem} {mc ms : Nat} {x0 x1 : Int} (h : 0 ≤ x0 → inI x1 → XJ l G bX12_constantHere Q d 0 [vr x0, vi x1, vu, vu, vu, vu, vu] [] S V mc ms) : Ct l G bX12_constantHere Q d mc ms [vr x0, vi x1] S V := Ct.of okX12_constantHere.1 trivial (Nat.le_of_ble_eq_true rfl) (fun hv => h (hv _ (List.mem_of_getElem? (i := 0) rfl)) (hv _ (List.mem_of_getElem? (i := 1) rfl)))
set_option maxRecDepth 10000 in
theorem vX12_encode_0 {l : Launch} {G : GT} {Q : Int → Sh → Mem → Prop} {d : Nat} {S : Sh} {V : Mem} {mc ms : Nat} {x0 x1 : Int} (h : (x1 < 0 → Q (-1) S V) ∧ (¬ (x1 < 0) → S.1 x0 = 13 ∧ (x1 < (V x0 8) → ((V x0 81) ≠ 20 → -2147483648 ≤ 61 * (V x0 81) ∧ 61 * (V x0 81) ≤ 2147483647 ∧ CT l G bX12_next d mc ms [vr x0] S (up V x0 5 0) (fun z4 S4 V4 mc4 ms4 => XJ l G bX12_encode Q d 51 [vr x0, vi x1, vi (61 * (V x0 81)), vi 0, vi 0, vi 1, vu] [] S4 V4 mc4 ms4)) ∧ (¬ ((V x0 81) ≠ 20) → Q (-2) S V)) ∧ (¬ (x1 < (V x0 8)) → Q (-1) S V))) : XJ l G bX12_encode Q d 0 [vr x0, vi x1, vu, vu, vu, vu, vu] [] S V mc ms := by
  refine X_iload_n dX12_encode_0 rfl ?_
  refine X_if_lt dX12_encode_1 (tgt := 12) rfl (fun c1 => ?_) (fun c1 => ?_)
  · refine X_iconst dX12_encode_12 (by decide) ?_
    exact X_ret (z := (-1)) dX12_encode_13 rfl (fun hv => vok_h hv) (h.1 c1)
  · refine X_iload_n dX12_encode_4 rfl ?_
    refine X_aload_n dX12_encode_5 rfl ?_
    refine X_getfield (ci := 12) (k := 8) (v := vi (V x0 8)) dX12_encode_6 rfl (by decide) kf_RX12_392 rfl (h.2 c1).1 ?_
    refine X_icmp_lt dX12_encode_9 (tgt := 14) rfl (fun c2 => ?_) (fun c2 => ?_)
    · refine X_aload_n dX12_encode_14 rfl ?_
      refine X_getfield (ci := 12) (k := 81) (v := vi (V x0 81)) dX12_encode_15 rfl (by decide) kf_RX12_473 rfl (h.2 c1).1 ?_
      refine X_bipush dX12_encode_18 (by decide) (by decide) ?_
      refine X_icmp_ne dX12_encode_20 (tgt := 26) rfl (fun c3 => ?_) (fun c3 => ?_)
      · refine X_bipush dX12_encode_26 (by decide) (by decide) ?_
        refine X_aload_n dX12_encode_28 rfl ?_
        refine X_getfield (ci := 12) (k := 81) (v := vi (V x0 81)) dX12_encode_29 rfl (by decide) kf_RX12_473 rfl (h.2 c1).1 ?_
        refine X_imulN dX12_encode_32 (((h.2 c1).2.1 c2).1 c3).1 (((h.2 c1).2.1 c2).1 c3).2.1 ?_
        refine X_istore_n dX12_encode_33 (by decide) rfl ?_
        refine X_iconst dX12_encode_34 (by decide) ?_
        refine X_istore_n dX12_encode_35 (by decide) rfl ?_
        refine X_iconst dX12_encode_36 (by decide) ?_
        refine X_istore dX12_encode_37 (by decide) rfl ?_
        refine X_iconst dX12_encode_39 (by decide) ?_
        refine X_istore dX12_encode_40 (by decide) rfl ?_
        refine X_aload_n dX12_encode_42 rfl ?_
        refine X_iconst dX12_encode_43 (by decide) ?_
        refine X_putfield (ci := 12) (k := 5) (z := 0) dX12_encode_44 rfl (by decide) kf_RX12_195 (Or.inl rfl) (Or.inl rfl) rfl (fun hv => hv) (h.2 c1).1 ?_
        refine X_aload_n dX12_encode_47 rfl ?_
        refine X_invV (ci := 12) (as := []) (st := []) okX12_next dX12_encode_48 km_RX12_285 rfl rfl (Nat.le_of_ble_eq_true rfl) rfl rfl (h.2 c1).1 (CT.imp (((h.2 c1).2.1 c2).1 c3).2.2 (fun z4 S4 V4 mc4 ms4 hc5 => ?_))
        exact hc5
      · refine X_bipush dX12_encode_23 (by decide) (by decide) ?_
        exact X_ret (z := (-2)) dX12_encode_25 rfl (fun hv => vok_h hv) (((h.2 c1).2.1 c2).2 c3)
    · refine X_iconst dX12_encode_12 (by decide) ?_
      exact X_ret (z := (-1)) dX12_encode_13 rfl (fun hv => vok_h hv) ((h.2 c1).2.2 c2)
set_option maxRecDepth 10000 in
theorem vX12_encode_51 {l : Launch} {G : GT} {Q : Int → Sh → Mem → Prop} {d : Nat} {S : Sh} {V : Mem} {mc ms : Nat} {x0 x1 x2 x3 x4 x5 : Int} (h : (x5 = 0 → S.1 x0 = 13 ∧ (x5 = 0 → -2147483648 ≤ (-10) - (V x0 4) ∧ (-10) - (V x0 4) ≤ 2147483647 ∧ Q ((-10) - (V x0 4)) S (up V x0 2 0)) ∧ (¬ (x5 = 0) → (x3 ≠ 0 → S.1 (V x0 77) = 20 ∧ 0 ≤ (V x0 81) ∧ (V x0 81) < S.2.1 (V x0 77) ∧ S.1 (V x0 78) = 20 ∧ (V x0 81) < S.2.1 (V x0 78) ∧ -2147483648 ≤ (V x0 81) + 1 ∧ (V x0 81) + 1 ≤ 2147483647 ∧ -2147483648 ≤ ((V x0 81) + 1) - 1 ∧ ((V x0 81) + 1) - 1 ≤ 2147483647 ∧ Q (((V x0 81) + 1) - 1) S (up (up (up (up V x0 2 0) (V x0 77) (V x0 81) x1) (V x0 78) (V x0 81) x3) x0 81 ((V x0 81) + 1))) ∧ (¬ (x3 ≠ 0) → -2147483648 ≤ (-10) - (V x0 4) ∧ (-10) - (V x0 4) ≤ 2147483647 ∧ Q ((-10) - (V x0 4)) S (up V x0 2 0)))) ∧ (¬ (x5 = 0) → S.1 x0 = 13 ∧ ((V x0 3) = 0 → (x5 = 0 → -2147483648 ≤ (-10) - (V x0 4) ∧ (-10) - (V x0 4) ≤ 2147483647 ∧ Q ((-10) - (V x0 4)) S (up V x0 2 0)) ∧ (¬ (x5 = 0) → (x3 ≠ 0 → S.1 (V x0 77) = 20 ∧ 0 ≤ (V x0 81) ∧ (V x0 81) < S.2.1 (V x0 77) ∧ S.1 (V x0 78) = 20 ∧ (V x0 81) < S.2.1 (V x0 78) ∧ -2147483648 ≤ (V x0 81) + 1 ∧ (V x0 81) + 1 ≤ 2147483647 ∧ -2147483648 ≤ ((V x0 81) + 1) - 1 ∧ ((V x0 81) + 1) - 1 ≤ 2147483647 ∧ Q (((V x0 81) + 1) - 1) S (up (up (up (up V x0 2 0) (V x0 77) (V x0 81) x1) (V x0 78) (V x0 81) x3) x0 81 ((V x0 81) + 1))) ∧ (¬ (x3 ≠ 0) → -2147483648 ≤ (-10) - (V x0 4) ∧ (-10) - (V x0 4) ≤ 2147483647 ∧ Q ((-10) - (V x0 4)) S (up V x0 2 0)))) ∧ (¬ ((V x0 3) = 0) → (x4 = 0 → CT l G bX12_constantHere d mc ms [vr x0, vi x1] S V (fun z8 S8 V8 mc8 ms8 => (z8 = (-1) → S8.1 x0 = 13 ∧ -2147483648 ≤ x2 + x3 ∧ x2 + x3 ≤ 2147483647 ∧ S8.1 (V8 x0 79) = 20 ∧ 0 ≤ (x2 + x3) ∧ (x2 + x3) < S8.2.1 (V8 x0 79) ∧ S8.1 (V8 x0 80) = 20 ∧ (x2 + x3) < S8.2.1 (V8 x0 80) ∧ -2147483648 ≤ x3 + 1 ∧ x3 + 1 ≤ 2147483647 ∧ XJ l G bX12_encode Q d 51 [vr x0, vi x1, vi x2, vi (x3 + 1), vi 1, vi 0, vu] [] S8 (up (up V8 (V8 x0 79) (x2 + x3) z8) (V8 x0 80) (x2 + x3) 0) mc8 ms8) ∧ (¬ (z8 = (-1)) → (60 ≤ x3 → S8.1 x0 = 13 ∧ -2147483648 ≤ x2 + x3 ∧ x2 + x3 ≤ 2147483647 ∧ S8.1 (V8 x0 79) = 20 ∧ 0 ≤ (x2 + x3) ∧ (x2 + x3) < S8.2.1 (V8 x0 79) ∧ S8.1 (V8 x0 80) = 20 ∧ (x2 + x3) < S8.2.1 (V8 x0 80) ∧ -2147483648 ≤ x3 + 1 ∧ x3 + 1 ≤ 2147483647 ∧ XJ l G bX12_encode Q d 51 [vr x0, vi x1, vi x2, vi (x3 + 1), vi 1, vi 0, vu] [] S8 (up (up V8 (V8 x0 79) (x2 + x3) z8) (V8 x0 80) (x2 + x3) 0) mc8 ms8) ∧ (¬ (60 ≤ x3) → S8.1 x0 = 13 ∧ -2147483648 ≤ x2 + x3 ∧ x2 + x3 ≤ 2147483647 ∧ S8.1 (V8 x0 79) = 20 ∧ 0 ≤ (x2 + x3) ∧ (x2 + x3) < S8.2.1 (V8 x0 79) ∧ S8.1 (V8 x0 80) = 20 ∧ (x2 + x3) < S8.2.1 (V8 x0 80) ∧ -2147483648 ≤ x3 + 1 ∧ x3 + 1 ≤ 2147483647 ∧ CT l G bX12_next d mc8 ms8 [vr x0] S8 (up (up V8 (V8 x0 79) (x2 + x3) z8) (V8 x0 80) (x2 + x3) 0) (fun z12 S12 V12 mc12 ms12 => XJ l G bX12_encode Q d 51 [vr x0, vi x1, vi x2, vi (x3 + 1), vi 1, vi 1, vu] [] S12 V12 mc12 ms12))))) ∧ (¬ (x4 = 0) → ((V x0 3) ≠ 3 → CT l G bX12_constantHere d mc ms [vr x0, vi x1] S V (fun z15 S15 V15 mc15 ms15 => (z15 = (-1) → S15.1 x0 = 13 ∧ -2147483648 ≤ x2 + x3 ∧ x2 + x3 ≤ 2147483647 ∧ S15.1 (V15 x0 79) = 20 ∧ 0 ≤ (x2 + x3) ∧ (x2 + x3) < S15.2.1 (V15 x0 79) ∧ S15.1 (V15 x0 80) = 20 ∧ (x2 + x3) < S15.2.1 (V15 x0 80) ∧ -2147483648 ≤ x3 + 1 ∧ x3 + 1 ≤ 2147483647 ∧ XJ l G bX12_encode Q d 51 [vr x0, vi x1, vi x2, vi (x3 + 1), vi 1, vi 0, vu] [] S15 (up (up V15 (V15 x0 79) (x2 + x3) z15) (V15 x0 80) (x2 + x3) 0) mc15 ms15) ∧ (¬ (z15 = (-1)) → (60 ≤ x3 → S15.1 x0 = 13 ∧ -2147483648 ≤ x2 + x3 ∧ x2 + x3 ≤ 2147483647 ∧ S15.1 (V15 x0 79) = 20 ∧ 0 ≤ (x2 + x3) ∧ (x2 + x3) < S15.2.1 (V15 x0 79) ∧ S15.1 (V15 x0 80) = 20 ∧ (x2 + x3) < S15.2.1 (V15 x0 80) ∧ -2147483648 ≤ x3 + 1 ∧ x3 + 1 ≤ 2147483647 ∧ XJ l G bX12_encode Q d 51 [vr x0, vi x1, vi x2, vi (x3 + 1), vi 1, vi 0, vu] [] S15 (up (up V15 (V15 x0 79) (x2 + x3) z15) (V15 x0 80) (x2 + x3) 0) mc15 ms15) ∧ (¬ (60 ≤ x3) → S15.1 x0 = 13 ∧ -2147483648 ≤ x2 + x3 ∧ x2 + x3 ≤ 2147483647 ∧ S15.1 (V15 x0 79) = 20 ∧ 0 ≤ (x2 + x3) ∧ (x2 + x3) < S15.2.1 (V15 x0 79) ∧ S15.1 (V15 x0 80) = 20 ∧ (x2 + x3) < S15.2.1 (V15 x0 80) ∧ -2147483648 ≤ x3 + 1 ∧ x3 + 1 ≤ 2147483647 ∧ CT l G bX12_next d mc15 ms15 [vr x0] S15 (up (up V15 (V15 x0 79) (x2 + x3) z15) (V15 x0 80) (x2 + x3) 0) (fun z19 S19 V19 mc19 ms19 => XJ l G bX12_encode Q d 51 [vr x0, vi x1, vi x2, vi (x3 + 1), vi 1, vi 1, vu] [] S19 V19 mc19 ms19))))) ∧ (¬ ((V x0 3) ≠ 3) → -2147483648 ≤ x2 + x3 ∧ x2 + x3 ≤ 2147483647 ∧ -2147483648 ≤ (x2 + x3) - 1 ∧ (x2 + x3) - 1 ≤ 2147483647 ∧ S.1 (V x0 80) = 20 ∧ 0 ≤ ((x2 + x3) - 1) ∧ ((x2 + x3) - 1) < S.2.1 (V x0 80) ∧ (x5 = 0 → XJ l G bX12_encode Q d 51 [vr x0, vi x1, vi x2, vi x3, vi 0, vi x5, vu] [] S (up V (V x0 80) ((x2 + x3) - 1) (V x0 6)) mc ms) ∧ (¬ (x5 = 0) → CT l G bX12_next d mc ms [vr x0] S (up V (V x0 80) ((x2 + x3) - 1) (V x0 6)) (fun z22 S22 V22 mc22 ms22 => XJ l G bX12_encode Q d 51 [vr x0, vi x1, vi x2, vi x3, vi 0, vi x5, vu] [] S22 V22 mc22 ms22))))))) : XJ l G bX12_encode Q d 51 [vr x0, vi x1, vi x2, vi x3, vi x4, vi x5, vu] [] S V mc ms := by
  refine X_iload dX12_encode_51 rfl ?_
  refine X_if_eq dX12_encode_53 (tgt := 159) rfl (fun c1 => ?_) (fun c1 => ?_)
  · refine X_aload_n dX12_encode_159 rfl ?_
    refine X_iconst dX12_encode_160 (by decide) ?_
    refine X_putfield (ci := 12) (k := 2) (z := 0) dX12_encode_161 rfl (by decide) kf_RX12_192 (Or.inl rfl) (Or.inl rfl) rfl (fun hv => hv) (h.1 c1).1 ?_
    refine X_iload dX12_encode_164 rfl ?_
    refine X_if_eq dX12_encode_166 (tgt := 173) rfl (fun c2 => ?_) (fun c2 => ?_)
    · refine X_bipush dX12_encode_173 (by decide) (by decide) ?_
      refine X_aload_n dX12_encode_175 rfl ?_
      refine X_getfield (ci := 12) (k := 4) (v := vi (V x0 4)) dX12_encode_176 rfl (by decide) kf_RX12_198 (congrArg vi (up_ne (Or.inr (by decide)))) (h.1 c1).1 ?_
      refine X_isubN dX12_encode_179 ((h.1 c1).2.1 c2).1 ((h.1 c1).2.1 c2).2.1 ?_
      exact X_ret (z := ((-10) - (V x0 4))) dX12_encode_180 rfl (fun hv => vok_h hv) ((h.1 c1).2.1 c2).2.2
    · refine X_iload_n dX12_encode_169 rfl ?_
      refine X_if_ne dX12_encode_170 (tgt := 181) rfl (fun c3 => ?_) (fun c3 => ?_)
      · refine X_aload_n dX12_encode_181 rfl ?_
        refine X_getfield (ci := 12) (k := 77) (v := vr (V x0 77)) dX12_encode_182 rfl (by decide) kf_RX12_173 (congrArg vr (up_ne (Or.inr (by decide)))) (h.1 c1).1 ?_
        refine X_aload_n dX12_encode_185 rfl ?_
        refine X_getfield (ci := 12) (k := 81) (v := vi (V x0 81)) dX12_encode_186 rfl (by decide) kf_RX12_473 (congrArg vi (up_ne (Or.inr (by decide)))) (h.1 c1).1 ?_
        refine X_iload_n dX12_encode_189 rfl ?_
        refine X_iastore dX12_encode_190 (((h.1 c1).2.2 c2).1 c3).1 (((h.1 c1).2.2 c2).1 c3).2.1 (((h.1 c1).2.2 c2).1 c3).2.2.1 ?_
        refine X_aload_n dX12_encode_191 rfl ?_
        refine X_getfield (ci := 12) (k := 78) (v := vr (V x0 78)) dX12_encode_192 rfl (by decide) kf_RX12_176 (congrArg vr ((up_ne (Or.inl (tag_ne (h.1 c1).1 (((h.1 c1).2.2 c2).1 c3).1 (by decide)))).trans (up_ne (Or.inr (by decide))))) (h.1 c1).1 ?_
        refine X_aload_n dX12_encode_195 rfl ?_
        refine X_getfield (ci := 12) (k := 81) (v := vi (V x0 81)) dX12_encode_196 rfl (by decide) kf_RX12_473 (congrArg vi ((up_ne (Or.inl (tag_ne (h.1 c1).1 (((h.1 c1).2.2 c2).1 c3).1 (by decide)))).trans (up_ne (Or.inr (by decide))))) (h.1 c1).1 ?_
        refine X_iload_n dX12_encode_199 rfl ?_
        refine X_iastore dX12_encode_200 (((h.1 c1).2.2 c2).1 c3).2.2.2.1 (((h.1 c1).2.2 c2).1 c3).2.1 (((h.1 c1).2.2 c2).1 c3).2.2.2.2.1 ?_
        refine X_aload_n dX12_encode_201 rfl ?_
        refine X_dup dX12_encode_202 (rv_cat _) ?_
        refine X_getfield (ci := 12) (k := 81) (v := vi (V x0 81)) dX12_encode_203 rfl (by decide) kf_RX12_473 (congrArg vi ((up_ne (Or.inl (tag_ne (h.1 c1).1 (((h.1 c1).2.2 c2).1 c3).2.2.2.1 (by decide)))).trans ((up_ne (Or.inl (tag_ne (h.1 c1).1 (((h.1 c1).2.2 c2).1 c3).1 (by decide)))).trans (up_ne (Or.inr (by decide)))))) (h.1 c1).1 ?_
        refine X_iconst dX12_encode_206 (by decide) ?_
        refine X_iaddN dX12_encode_207 (((h.1 c1).2.2 c2).1 c3).2.2.2.2.2.1 (((h.1 c1).2.2 c2).1 c3).2.2.2.2.2.2.1 ?_
        refine X_putfield (ci := 12) (k := 81) (z := ((V x0 81) + 1)) dX12_encode_208 rfl (by decide) kf_RX12_473 (Or.inl rfl) (Or.inl rfl) rfl (fun hv => hv) (h.1 c1).1 ?_
        refine X_aload_n dX12_encode_211 rfl ?_
        refine X_getfield (ci := 12) (k := 81) (v := vi ((V x0 81) + 1)) dX12_encode_212 rfl (by decide) kf_RX12_473 (congrArg vi up_eq) (h.1 c1).1 ?_
        refine X_iconst dX12_encode_215 (by decide) ?_
        refine X_isubN dX12_encode_216 (((h.1 c1).2.2 c2).1 c3).2.2.2.2.2.2.2.1 (((h.1 c1).2.2 c2).1 c3).2.2.2.2.2.2.2.2.1 ?_
        exact X_ret (z := (((V x0 81) + 1) - 1)) dX12_encode_217 rfl (fun hv => vok_h hv) (((h.1 c1).2.2 c2).1 c3).2.2.2.2.2.2.2.2.2
      · refine X_bipush dX12_encode_173 (by decide) (by decide) ?_
        refine X_aload_n dX12_encode_175 rfl ?_
        refine X_getfield (ci := 12) (k := 4) (v := vi (V x0 4)) dX12_encode_176 rfl (by decide) kf_RX12_198 (congrArg vi (up_ne (Or.inr (by decide)))) (h.1 c1).1 ?_
        refine X_isubN dX12_encode_179 (((h.1 c1).2.2 c2).2 c3).1 (((h.1 c1).2.2 c2).2 c3).2.1 ?_
        exact X_ret (z := ((-10) - (V x0 4))) dX12_encode_180 rfl (fun hv => vok_h hv) (((h.1 c1).2.2 c2).2 c3).2.2
  · refine X_aload_n dX12_encode_56 rfl ?_
    refine X_getfield (ci := 12) (k := 3) (v := vi (V x0 3)) dX12_encode_57 rfl (by decide) kf_RX12_205 rfl (h.2 c1).1 ?_
    refine X_if_eq dX12_encode_60 (tgt := 159) rfl (fun c4 => ?_) (fun c4 => ?_)
    · refine X_aload_n dX12_encode_159 rfl ?_
      refine X_iconst dX12_encode_160 (by decide) ?_
      refine X_putfield (ci := 12) (k := 2) (z := 0) dX12_encode_161 rfl (by decide) kf_RX12_192 (Or.inl rfl) (Or.inl rfl) rfl (fun hv => hv) (h.2 c1).1 ?_
      refine X_iload dX12_encode_164 rfl ?_
      refine X_if_eq dX12_encode_166 (tgt := 173) rfl (fun c5 => ?_) (fun c5 => ?_)
      · refine X_bipush dX12_encode_173 (by decide) (by decide) ?_
        refine X_aload_n dX12_encode_175 rfl ?_
        refine X_getfield (ci := 12) (k := 4) (v := vi (V x0 4)) dX12_encode_176 rfl (by decide) kf_RX12_198 (congrArg vi (up_ne (Or.inr (by decide)))) (h.2 c1).1 ?_
        refine X_isubN dX12_encode_179 (((h.2 c1).2.1 c4).1 c5).1 (((h.2 c1).2.1 c4).1 c5).2.1 ?_
        exact X_ret (z := ((-10) - (V x0 4))) dX12_encode_180 rfl (fun hv => vok_h hv) (((h.2 c1).2.1 c4).1 c5).2.2
      · refine X_iload_n dX12_encode_169 rfl ?_
        refine X_if_ne dX12_encode_170 (tgt := 181) rfl (fun c6 => ?_) (fun c6 => ?_)
        · refine X_aload_n dX12_encode_181 rfl ?_
          refine X_getfield (ci := 12) (k := 77) (v := vr (V x0 77)) dX12_encode_182 rfl (by decide) kf_RX12_173 (congrArg vr (up_ne (Or.inr (by decide)))) (h.2 c1).1 ?_
          refine X_aload_n dX12_encode_185 rfl ?_
          refine X_getfield (ci := 12) (k := 81) (v := vi (V x0 81)) dX12_encode_186 rfl (by decide) kf_RX12_473 (congrArg vi (up_ne (Or.inr (by decide)))) (h.2 c1).1 ?_
          refine X_iload_n dX12_encode_189 rfl ?_
          refine X_iastore dX12_encode_190 ((((h.2 c1).2.1 c4).2 c5).1 c6).1 ((((h.2 c1).2.1 c4).2 c5).1 c6).2.1 ((((h.2 c1).2.1 c4).2 c5).1 c6).2.2.1 ?_
          refine X_aload_n dX12_encode_191 rfl ?_
          refine X_getfield (ci := 12) (k := 78) (v := vr (V x0 78)) dX12_encode_192 rfl (by decide) kf_RX12_176 (congrArg vr ((up_ne (Or.inl (tag_ne (h.2 c1).1 ((((h.2 c1).2.1 c4).2 c5).1 c6).1 (by decide)))).trans (up_ne (Or.inr (by decide))))) (h.2 c1).1 ?_
          refine X_aload_n dX12_encode_195 rfl ?_
          refine X_getfield (ci := 12) (k := 81) (v := vi (V x0 81)) dX12_encode_196 rfl (by decide) kf_RX12_473 (congrArg vi ((up_ne (Or.inl (tag_ne (h.2 c1).1 ((((h.2 c1).2.1 c4).2 c5).1 c6).1 (by decide)))).trans (up_ne (Or.inr (by decide))))) (h.2 c1).1 ?_
          refine X_iload_n dX12_encode_199 rfl ?_
          refine X_iastore dX12_encode_200 ((((h.2 c1).2.1 c4).2 c5).1 c6).2.2.2.1 ((((h.2 c1).2.1 c4).2 c5).1 c6).2.1 ((((h.2 c1).2.1 c4).2 c5).1 c6).2.2.2.2.1 ?_
          refine X_aload_n dX12_encode_201 rfl ?_
          refine X_dup dX12_encode_202 (rv_cat _) ?_
          refine X_getfield (ci := 12) (k := 81) (v := vi (V x0 81)) dX12_encode_203 rfl (by decide) kf_RX12_473 (congrArg vi ((up_ne (Or.inl (tag_ne (h.2 c1).1 ((((h.2 c1).2.1 c4).2 c5).1 c6).2.2.2.1 (by decide)))).trans ((up_ne (Or.inl (tag_ne (h.2 c1).1 ((((h.2 c1).2.1 c4).2 c5).1 c6).1 (by decide)))).trans (up_ne (Or.inr (by decide)))))) (h.2 c1).1 ?_
          refine X_iconst dX12_encode_206 (by decide) ?_
          refine X_iaddN dX12_encode_207 ((((h.2 c1).2.1 c4).2 c5).1 c6).2.2.2.2.2.1 ((((h.2 c1).2.1 c4).2 c5).1 c6).2.2.2.2.2.2.1 ?_
          refine X_putfield (ci := 12) (k := 81) (z := ((V x0 81) + 1)) dX12_encode_208 rfl (by decide) kf_RX12_473 (Or.inl rfl) (Or.inl rfl) rfl (fun hv => hv) (h.2 c1).1 ?_
          refine X_aload_n dX12_encode_211 rfl ?_
          refine X_getfield (ci := 12) (k := 81) (v := vi ((V x0 81) + 1)) dX12_encode_212 rfl (by decide) kf_RX12_473 (congrArg vi up_eq) (h.2 c1).1 ?_
          refine X_iconst dX12_encode_215 (by decide) ?_
          refine X_isubN dX12_encode_216 ((((h.2 c1).2.1 c4).2 c5).1 c6).2.2.2.2.2.2.2.1 ((((h.2 c1).2.1 c4).2 c5).1 c6).2.2.2.2.2.2.2.2.1 ?_
          exact X_ret (z := (((V x0 81) + 1) - 1)) dX12_encode_217 rfl (fun hv => vok_h hv) ((((h.2 c1).2.1 c4).2 c5).1 c6).2.2.2.2.2.2.2.2.2
        · refine X_bipush dX12_encode_173 (by decide) (by decide) ?_
          refine X_aload_n dX12_encode_175 rfl ?_
          refine X_getfield (ci := 12) (k := 4) (v := vi (V x0 4)) dX12_encode_176 rfl (by decide) kf_RX12_198 (congrArg vi (up_ne (Or.inr (by decide)))) (h.2 c1).1 ?_
          refine X_isubN dX12_encode_179 ((((h.2 c1).2.1 c4).2 c5).2 c6).1 ((((h.2 c1).2.1 c4).2 c5).2 c6).2.1 ?_
          exact X_ret (z := ((-10) - (V x0 4))) dX12_encode_180 rfl (fun hv => vok_h hv) ((((h.2 c1).2.1 c4).2 c5).2 c6).2.2
    · refine X_iload dX12_encode_63 rfl ?_
      refine X_if_eq dX12_encode_65 (tgt := 96) rfl (fun c7 => ?_) (fun c7 => ?_)
      · refine X_aload_n dX12_encode_96 rfl ?_
        refine X_iload_n dX12_encode_97 rfl ?_
        refine X_invV (ci := 12) (as := [vi x1]) (st := []) okX12_constantHere dX12_encode_98 km_RX12_476 rfl rfl (Nat.le_of_ble_eq_true rfl) rfl rfl (h.2 c1).1 (CT.imp (((h.2 c1).2.2 c4).1 c7) (fun z8 S8 V8 mc8 ms8 hc9 => ?_))
        refine X_istore dX12_encode_101 (by decide) rfl ?_
        refine X_iload dX12_encode_103 rfl ?_
        refine X_iconst dX12_encode_105 (by decide) ?_
        refine X_icmp_eq dX12_encode_106 (tgt := 119) rfl (fun c10 => ?_) (fun c10 => ?_)
        · refine X_iconst dX12_encode_119 (by decide) ?_
          refine X_istore dX12_encode_120 (by decide) rfl ?_
          refine X_aload_n dX12_encode_122 rfl ?_
          refine X_getfield (ci := 12) (k := 79) (v := vr (V8 x0 79)) dX12_encode_123 rfl (by decide) kf_RX12_179 rfl (hc9.1 c10).1 ?_
          refine X_iload_n dX12_encode_126 rfl ?_
          refine X_iload_n dX12_encode_127 rfl ?_
          refine X_iaddN dX12_encode_128 (hc9.1 c10).2.1 (hc9.1 c10).2.2.1 ?_
          refine X_iload dX12_encode_129 rfl ?_
          refine X_iastore dX12_encode_131 (hc9.1 c10).2.2.2.1 (hc9.1 c10).2.2.2.2.1 (hc9.1 c10).2.2.2.2.2.1 ?_
          refine X_aload_n dX12_encode_132 rfl ?_
          refine X_getfield (ci := 12) (k := 80) (v := vr (V8 x0 80)) dX12_encode_133 rfl (by decide) kf_RX12_182 (congrArg vr (up_ne (Or.inl (tag_ne (hc9.1 c10).1 (hc9.1 c10).2.2.2.1 (by decide))))) (hc9.1 c10).1 ?_
          refine X_iload_n dX12_encode_136 rfl ?_
          refine X_iload_n dX12_encode_137 rfl ?_
          refine X_iaddN dX12_encode_138 (hc9.1 c10).2.1 (hc9.1 c10).2.2.1 ?_
          refine X_iconst dX12_encode_139 (by decide) ?_
          refine X_iastore dX12_encode_140 (hc9.1 c10).2.2.2.2.2.2.1 (hc9.1 c10).2.2.2.2.1 (hc9.1 c10).2.2.2.2.2.2.2.1 ?_
          refine X_iincN dX12_encode_141 rfl (by decide) rfl (e := x3 + 1) rfl (hc9.1 c10).2.2.2.2.2.2.2.2.1 (hc9.1 c10).2.2.2.2.2.2.2.2.2.1 ?_
          refine X_iconst dX12_encode_144 (by decide) ?_
          refine X_istore dX12_encode_145 (by decide) rfl ?_
          refine X_iload dX12_encode_147 rfl ?_
          refine X_if_eq dX12_encode_149 (tgt := 51) rfl (fun _ => ?_) (fun c => absurd (by decide) c)
          exact X_weak [false, false, false, false, false, false, true] (hc9.1 c10).2.2.2.2.2.2.2.2.2.2
        · refine X_iload_n dX12_encode_109 rfl ?_
          refine X_bipush dX12_encode_110 (by decide) (by decide) ?_
          refine X_icmp_ge dX12_encode_112 (tgt := 119) rfl (fun c11 => ?_) (fun c11 => ?_)
          · refine X_iconst dX12_encode_119 (by decide) ?_
            refine X_istore dX12_encode_120 (by decide) rfl ?_
            refine X_aload_n dX12_encode_122 rfl ?_
            refine X_getfield (ci := 12) (k := 79) (v := vr (V8 x0 79)) dX12_encode_123 rfl (by decide) kf_RX12_179 rfl ((hc9.2 c10).1 c11).1 ?_
            refine X_iload_n dX12_encode_126 rfl ?_
            refine X_iload_n dX12_encode_127 rfl ?_
            refine X_iaddN dX12_encode_128 ((hc9.2 c10).1 c11).2.1 ((hc9.2 c10).1 c11).2.2.1 ?_
            refine X_iload dX12_encode_129 rfl ?_
            refine X_iastore dX12_encode_131 ((hc9.2 c10).1 c11).2.2.2.1 ((hc9.2 c10).1 c11).2.2.2.2.1 ((hc9.2 c10).1 c11).2.2.2.2.2.1 ?_
            refine X_aload_n dX12_encode_132 rfl ?_
            refine X_getfield (ci := 12) (k := 80) (v := vr (V8 x0 80)) dX12_encode_133 rfl (by decide) kf_RX12_182 (congrArg vr (up_ne (Or.inl (tag_ne ((hc9.2 c10).1 c11).1 ((hc9.2 c10).1 c11).2.2.2.1 (by decide))))) ((hc9.2 c10).1 c11).1 ?_
            refine X_iload_n dX12_encode_136 rfl ?_
            refine X_iload_n dX12_encode_137 rfl ?_
            refine X_iaddN dX12_encode_138 ((hc9.2 c10).1 c11).2.1 ((hc9.2 c10).1 c11).2.2.1 ?_
            refine X_iconst dX12_encode_139 (by decide) ?_
            refine X_iastore dX12_encode_140 ((hc9.2 c10).1 c11).2.2.2.2.2.2.1 ((hc9.2 c10).1 c11).2.2.2.2.1 ((hc9.2 c10).1 c11).2.2.2.2.2.2.2.1 ?_
            refine X_iincN dX12_encode_141 rfl (by decide) rfl (e := x3 + 1) rfl ((hc9.2 c10).1 c11).2.2.2.2.2.2.2.2.1 ((hc9.2 c10).1 c11).2.2.2.2.2.2.2.2.2.1 ?_
            refine X_iconst dX12_encode_144 (by decide) ?_
            refine X_istore dX12_encode_145 (by decide) rfl ?_
            refine X_iload dX12_encode_147 rfl ?_
            refine X_if_eq dX12_encode_149 (tgt := 51) rfl (fun _ => ?_) (fun c => absurd (by decide) c)
            exact X_weak [false, false, false, false, false, false, true] ((hc9.2 c10).1 c11).2.2.2.2.2.2.2.2.2.2
          · refine X_iconst dX12_encode_115 (by decide) ?_
            refine X_goto dX12_encode_116 (tgt := 120) rfl ?_
            refine X_istore dX12_encode_120 (by decide) rfl ?_
            refine X_aload_n dX12_encode_122 rfl ?_
            refine X_getfield (ci := 12) (k := 79) (v := vr (V8 x0 79)) dX12_encode_123 rfl (by decide) kf_RX12_179 rfl ((hc9.2 c10).2 c11).1 ?_
            refine X_iload_n dX12_encode_126 rfl ?_
            refine X_iload_n dX12_encode_127 rfl ?_
            refine X_iaddN dX12_encode_128 ((hc9.2 c10).2 c11).2.1 ((hc9.2 c10).2 c11).2.2.1 ?_
            refine X_iload dX12_encode_129 rfl ?_
            refine X_iastore dX12_encode_131 ((hc9.2 c10).2 c11).2.2.2.1 ((hc9.2 c10).2 c11).2.2.2.2.1 ((hc9.2 c10).2 c11).2.2.2.2.2.1 ?_
            refine X_aload_n dX12_encode_132 rfl ?_
            refine X_getfield (ci := 12) (k := 80) (v := vr (V8 x0 80)) dX12_encode_133 rfl (by decide) kf_RX12_182 (congrArg vr (up_ne (Or.inl (tag_ne ((hc9.2 c10).2 c11).1 ((hc9.2 c10).2 c11).2.2.2.1 (by decide))))) ((hc9.2 c10).2 c11).1 ?_
            refine X_iload_n dX12_encode_136 rfl ?_
            refine X_iload_n dX12_encode_137 rfl ?_
            refine X_iaddN dX12_encode_138 ((hc9.2 c10).2 c11).2.1 ((hc9.2 c10).2 c11).2.2.1 ?_
            refine X_iconst dX12_encode_139 (by decide) ?_
            refine X_iastore dX12_encode_140 ((hc9.2 c10).2 c11).2.2.2.2.2.2.1 ((hc9.2 c10).2 c11).2.2.2.2.1 ((hc9.2 c10).2 c11).2.2.2.2.2.2.2.1 ?_
            refine X_iincN dX12_encode_141 rfl (by decide) rfl (e := x3 + 1) rfl ((hc9.2 c10).2 c11).2.2.2.2.2.2.2.2.1 ((hc9.2 c10).2 c11).2.2.2.2.2.2.2.2.2.1 ?_
            refine X_iconst dX12_encode_144 (by decide) ?_
            refine X_istore dX12_encode_145 (by decide) rfl ?_
            refine X_iload dX12_encode_147 rfl ?_
            refine X_if_eq dX12_encode_149 (tgt := 51) rfl (fun c => absurd c (by decide)) (fun _ => ?_)
            refine X_aload_n dX12_encode_152 rfl ?_
            refine X_invV (ci := 12) (as := []) (st := []) okX12_next dX12_encode_153 km_RX12_285 rfl rfl (Nat.le_of_ble_eq_true rfl) rfl rfl ((hc9.2 c10).2 c11).1 (CT.imp ((hc9.2 c10).2 c11).2.2.2.2.2.2.2.2.2.2 (fun z12 S12 V12 mc12 ms12 hc13 => ?_))
            refine X_goto dX12_encode_156 (tgt := 51) rfl ?_
            exact X_weak [false, false, false, false, false, false, true] hc13
      · refine X_aload_n dX12_encode_68 rfl ?_
        refine X_getfield (ci := 12) (k := 3) (v := vi (V x0 3)) dX12_encode_69 rfl (by decide) kf_RX12_205 rfl (h.2 c1).1 ?_
        refine X_iconst dX12_encode_72 (by decide) ?_
        refine X_icmp_ne dX12_encode_73 (tgt := 96) rfl (fun c14 => ?_) (fun c14 => ?_)
        · refine X_aload_n dX12_encode_96 rfl ?_
          refine X_iload_n dX12_encode_97 rfl ?_
          refine X_invV (ci := 12) (as := [vi x1]) (st := []) okX12_constantHere dX12_encode_98 km_RX12_476 rfl rfl (Nat.le_of_ble_eq_true rfl) rfl rfl (h.2 c1).1 (CT.imp ((((h.2 c1).2.2 c4).2 c7).1 c14) (fun z15 S15 V15 mc15 ms15 hc16 => ?_))
          refine X_istore dX12_encode_101 (by decide) rfl ?_
          refine X_iload dX12_encode_103 rfl ?_
          refine X_iconst dX12_encode_105 (by decide) ?_
          refine X_icmp_eq dX12_encode_106 (tgt := 119) rfl (fun c17 => ?_) (fun c17 => ?_)
          · refine X_iconst dX12_encode_119 (by decide) ?_
            refine X_istore dX12_encode_120 (by decide) rfl ?_
            refine X_aload_n dX12_encode_122 rfl ?_
            refine X_getfield (ci := 12) (k := 79) (v := vr (V15 x0 79)) dX12_encode_123 rfl (by decide) kf_RX12_179 rfl (hc16.1 c17).1 ?_
            refine X_iload_n dX12_encode_126 rfl ?_
            refine X_iload_n dX12_encode_127 rfl ?_
            refine X_iaddN dX12_encode_128 (hc16.1 c17).2.1 (hc16.1 c17).2.2.1 ?_
            refine X_iload dX12_encode_129 rfl ?_
            refine X_iastore dX12_encode_131 (hc16.1 c17).2.2.2.1 (hc16.1 c17).2.2.2.2.1 (hc16.1 c17).2.2.2.2.2.1 ?_
            refine X_aload_n dX12_encode_132 rfl ?_
            refine X_getfield (ci := 12) (k := 80) (v := vr (V15 x0 80)) dX12_encode_133 rfl (by decide) kf_RX12_182 (congrArg vr (up_ne (Or.inl (tag_ne (hc16.1 c17).1 (hc16.1 c17).2.2.2.1 (by decide))))) (hc16.1 c17).1 ?_
            refine X_iload_n dX12_encode_136 rfl ?_
            refine X_iload_n dX12_encode_137 rfl ?_
            refine X_iaddN dX12_encode_138 (hc16.1 c17).2.1 (hc16.1 c17).2.2.1 ?_
            refine X_iconst dX12_encode_139 (by decide) ?_
            refine X_iastore dX12_encode_140 (hc16.1 c17).2.2.2.2.2.2.1 (hc16.1 c17).2.2.2.2.1 (hc16.1 c17).2.2.2.2.2.2.2.1 ?_
            refine X_iincN dX12_encode_141 rfl (by decide) rfl (e := x3 + 1) rfl (hc16.1 c17).2.2.2.2.2.2.2.2.1 (hc16.1 c17).2.2.2.2.2.2.2.2.2.1 ?_
            refine X_iconst dX12_encode_144 (by decide) ?_
            refine X_istore dX12_encode_145 (by decide) rfl ?_
            refine X_iload dX12_encode_147 rfl ?_
            refine X_if_eq dX12_encode_149 (tgt := 51) rfl (fun _ => ?_) (fun c => absurd (by decide) c)
            exact X_weak [false, false, false, false, false, false, true] (hc16.1 c17).2.2.2.2.2.2.2.2.2.2
          · refine X_iload_n dX12_encode_109 rfl ?_
            refine X_bipush dX12_encode_110 (by decide) (by decide) ?_
            refine X_icmp_ge dX12_encode_112 (tgt := 119) rfl (fun c18 => ?_) (fun c18 => ?_)
            · refine X_iconst dX12_encode_119 (by decide) ?_
              refine X_istore dX12_encode_120 (by decide) rfl ?_
              refine X_aload_n dX12_encode_122 rfl ?_
              refine X_getfield (ci := 12) (k := 79) (v := vr (V15 x0 79)) dX12_encode_123 rfl (by decide) kf_RX12_179 rfl ((hc16.2 c17).1 c18).1 ?_
              refine X_iload_n dX12_encode_126 rfl ?_
              refine X_iload_n dX12_encode_127 rfl ?_
              refine X_iaddN dX12_encode_128 ((hc16.2 c17).1 c18).2.1 ((hc16.2 c17).1 c18).2.2.1 ?_
              refine X_iload dX12_encode_129 rfl ?_
              refine X_iastore dX12_encode_131 ((hc16.2 c17).1 c18).2.2.2.1 ((hc16.2 c17).1 c18).2.2.2.2.1 ((hc16.2 c17).1 c18).2.2.2.2.2.1 ?_
              refine X_aload_n dX12_encode_132 rfl ?_
              refine X_getfield (ci := 12) (k := 80) (v := vr (V15 x0 80)) dX12_encode_133 rfl (by decide) kf_RX12_182 (congrArg vr (up_ne (Or.inl (tag_ne ((hc16.2 c17).1 c18).1 ((hc16.2 c17).1 c18).2.2.2.1 (by decide))))) ((hc16.2 c17).1 c18).1 ?_
              refine X_iload_n dX12_encode_136 rfl ?_
              refine X_iload_n dX12_encode_137 rfl ?_
              refine X_iaddN dX12_encode_138 ((hc16.2 c17).1 c18).2.1 ((hc16.2 c17).1 c18).2.2.1 ?_
              refine X_iconst dX12_encode_139 (by decide) ?_
              refine X_iastore dX12_encode_140 ((hc16.2 c17).1 c18).2.2.2.2.2.2.1 ((hc16.2 c17).1 c18).2.2.2.2.1 ((hc16.2 c17).1 c18).2.2.2.2.2.2.2.1 ?_
              refine X_iincN dX12_encode_141 rfl (by decide) rfl (e := x3 + 1) rfl ((hc16.2 c17).1 c18).2.2.2.2.2.2.2.2.1 ((hc16.2 c17).1 c18).2.2.2.2.2.2.2.2.2.1 ?_
              refine X_iconst dX12_encode_144 (by decide) ?_
              refine X_istore dX12_encode_145 (by decide) rfl ?_
              refine X_iload dX12_encode_147 rfl ?_
              refine X_if_eq dX12_encode_149 (tgt := 51) rfl (fun _ => ?_) (fun c => absurd (by decide) c)
              exact X_weak [false, false, false, false, false, false, true] ((hc16.2 c17).1 c18).2.2.2.2.2.2.2.2.2.2
            · refine X_iconst dX12_encode_115 (by decide) ?_
              refine X_goto dX12_encode_116 (tgt := 120) rfl ?_
              refine X_istore dX12_encode_120 (by decide) rfl ?_
              refine X_aload_n dX12_encode_122 rfl ?_
              refine X_getfield (ci := 12) (k := 79) (v := vr (V15 x0 79)) dX12_encode_123 rfl (by decide) kf_RX12_179 rfl ((hc16.2 c17).2 c18).1 ?_
              refine X_iload_n dX12_encode_126 rfl ?_
              refine X_iload_n dX12_encode_127 rfl ?_
              refine X_iaddN dX12_encode_128 ((hc16.2 c17).2 c18).2.1 ((hc16.2 c17).2 c18).2.2.1 ?_
              refine X_iload dX12_encode_129 rfl ?_
              refine X_iastore dX12_encode_131 ((hc16.2 c17).2 c18).2.2.2.1 ((hc16.2 c17).2 c18).2.2.2.2.1 ((hc16.2 c17).2 c18).2.2.2.2.2.1 ?_
              refine X_aload_n dX12_encode_132 rfl ?_
              refine X_getfield (ci := 12) (k := 80) (v := vr (V15 x0 80)) dX12_encode_133 rfl (by decide) kf_RX12_182 (congrArg vr (up_ne (Or.inl (tag_ne ((hc16.2 c17).2 c18).1 ((hc16.2 c17).2 c18).2.2.2.1 (by decide))))) ((hc16.2 c17).2 c18).1 ?_
              refine X_iload_n dX12_encode_136 rfl ?_
              refine X_iload_n dX12_encode_137 rfl ?_
              refine X_iaddN dX12_encode_138 ((hc16.2 c17).2 c18).2.1 ((hc16.2 c17).2 c18).2.2.1 ?_
              refine X_iconst dX12_encode_139 (by decide) ?_
              refine X_iastore dX12_encode_140 ((hc16.2 c17).2 c18).2.2.2.2.2.2.1 ((hc16.2 c17).2 c18).2.2.2.2.1 ((hc16.2 c17).2 c18).2.2.2.2.2.2.2.1 ?_
              refine X_iincN dX12_encode_141 rfl (by decide) rfl (e := x3 + 1) rfl ((hc16.2 c17).2 c18).2.2.2.2.2.2.2.2.1 ((hc16.2 c17).2 c18).2.2.2.2.2.2.2.2.2.1 ?_
              refine X_iconst dX12_encode_144 (by decide) ?_
              refine X_istore dX12_encode_145 (by decide) rfl ?_
              refine X_iload dX12_encode_147 rfl ?_
              refine X_if_eq dX12_encode_149 (tgt := 51) rfl (fun c => absurd c (by decide)) (fun _ => ?_)
              refine X_aload_n dX12_encode_152 rfl ?_
              refine X_invV (ci := 12) (as := []) (st := []) okX12_next dX12_encode_153 km_RX12_285 rfl rfl (Nat.le_of_ble_eq_true rfl) rfl rfl ((hc16.2 c17).2 c18).1 (CT.imp ((hc16.2 c17).2 c18).2.2.2.2.2.2.2.2.2.2 (fun z19 S19 V19 mc19 ms19 hc20 => ?_))
              refine X_goto dX12_encode_156 (tgt := 51) rfl ?_
              exact X_weak [false, false, false, false, false, false, true] hc20
        · refine X_aload_n dX12_encode_76 rfl ?_
          refine X_getfield (ci := 12) (k := 80) (v := vr (V x0 80)) dX12_encode_77 rfl (by decide) kf_RX12_182 rfl (h.2 c1).1 ?_
          refine X_iload_n dX12_encode_80 rfl ?_
          refine X_iload_n dX12_encode_81 rfl ?_
          refine X_iaddN dX12_encode_82 ((((h.2 c1).2.2 c4).2 c7).2 c14).1 ((((h.2 c1).2.2 c4).2 c7).2 c14).2.1 ?_
          refine X_iconst dX12_encode_83 (by decide) ?_
          refine X_isubN dX12_encode_84 ((((h.2 c1).2.2 c4).2 c7).2 c14).2.2.1 ((((h.2 c1).2.2 c4).2 c7).2 c14).2.2.2.1 ?_
          refine X_aload_n dX12_encode_85 rfl ?_
          refine X_getfield (ci := 12) (k := 6) (v := vi (V x0 6)) dX12_encode_86 rfl (by decide) kf_RX12_215 rfl (h.2 c1).1 ?_
          refine X_iastore dX12_encode_89 ((((h.2 c1).2.2 c4).2 c7).2 c14).2.2.2.2.1 ((((h.2 c1).2.2 c4).2 c7).2 c14).2.2.2.2.2.1 ((((h.2 c1).2.2 c4).2 c7).2 c14).2.2.2.2.2.2.1 ?_
          refine X_iconst dX12_encode_90 (by decide) ?_
          refine X_istore dX12_encode_91 (by decide) rfl ?_
          refine X_goto dX12_encode_93 (tgt := 147) rfl ?_
          refine X_iload dX12_encode_147 rfl ?_
          refine X_if_eq dX12_encode_149 (tgt := 51) rfl (fun c21 => ?_) (fun c21 => ?_)
          · exact (((((h.2 c1).2.2 c4).2 c7).2 c14).2.2.2.2.2.2.2.1 c21)
          · refine X_aload_n dX12_encode_152 rfl ?_
            refine X_invV (ci := 12) (as := []) (st := []) okX12_next dX12_encode_153 km_RX12_285 rfl rfl (Nat.le_of_ble_eq_true rfl) rfl rfl (h.2 c1).1 (CT.imp (((((h.2 c1).2.2 c4).2 c7).2 c14).2.2.2.2.2.2.2.2 c21) (fun z22 S22 V22 mc22 ms22 hc23 => ?_))
            refine X_goto dX12_encode_156 (tgt := 51) rfl ?_
            exact hc23
theorem qX12_encode {l : Launch} {G : GT} {Q : Int → Sh → Mem → Prop} {d : Nat} {S : Sh} {V : Mem} {mc ms : Nat} {x0 x1 : Int} (h : 0 ≤ x0 → inI x1 → XJ l G bX12_encode Q d 0 [vr x0, vi x1, vu, vu, vu, vu, vu] [] S V mc ms) : Ct l G bX12_encode Q d mc ms [vr x0, vi x1] S V := Ct.of okX12_encode.1 trivial (Nat.le_of_ble_eq_true rfl) (fun hv => h (hv _ (List.mem_of_getElem? (i := 0) rfl)) (hv _ (List.mem_of_getElem? (i := 1) rfl)))
set_option maxRecDepth 10000 in
theorem vX12_signal_0 {l : Launch} {G : GT} {Q : Int → Sh → Mem → Prop} {d : Nat} {S : Sh} {V : Mem} {mc ms : Nat} {x0 x1 x2 x3 : Int} (h : (x1 < 0 → Q (-1) S V) ∧ (¬ (x1 < 0) → S.1 x0 = 13 ∧ ((V x0 81) ≤ x1 → Q (-1) S V) ∧ (¬ ((V x0 81) ≤ x1) → (x2 < 0 → Q (-1) S V) ∧ (¬ (x2 < 0) → S.1 (V x0 78) = 20 ∧ 0 ≤ x1 ∧ x1 < S.2.1 (V x0 78) ∧ (x2 < (V (V x0 78) x1) → -2147483648 ≤ 61 * x1 ∧ 61 * x1 ≤ 2147483647 ∧ -2147483648 ≤ (61 * x1) + x2 ∧ (61 * x1) + x2 ≤ 2147483647 ∧ S.1 (V x0 79) = 20 ∧ 0 ≤ ((61 * x1) + x2) ∧ ((61 * x1) + x2) < S.2.1 (V x0 79) ∧ (x3 = 0 → Q (((V (V x0 79) ((61 * x1) + x2)).tdiv 24).tmod 12) S V) ∧ (¬ x3 = 0 → (x3 = 1 → Q ((V (V x0 79) ((61 * x1) + x2)).tmod 24) S V) ∧ (¬ x3 = 1 → (x3 = 2 → S.1 (V x0 80) = 20 ∧ ((61 * x1) + x2) < S.2.1 (V x0 80) ∧ Q (V (V x0 80) ((61 * x1) + x2)) S V) ∧ (¬ x3 = 2 → (x3 = 3 → S.1 (V x0 77) = 20 ∧ x1 < S.2.1 (V x0 77) ∧ Q (V (V x0 77) x1) S V) ∧ (¬ x3 = 3 → Q (-1) S V))))) ∧ (¬ (x2 < (V (V x0 78) x1)) → Q (-1) S V))))) : XJ l G bX12_signal Q d 0 [vr x0, vi x1, vi x2, vi x3, vu] [] S V mc ms := by
  refine X_iload_n dX12_signal_0 rfl ?_
  refine X_if_lt dX12_signal_1 (tgt := 26) rfl (fun c1 => ?_) (fun c1 => ?_)
  · refine X_iconst dX12_signal_26 (by decide) ?_
    exact X_ret (z := (-1)) dX12_signal_27 rfl (fun hv => vok_h hv) (h.1 c1)
  · refine X_iload_n dX12_signal_4 rfl ?_
    refine X_aload_n dX12_signal_5 rfl ?_
    refine X_getfield (ci := 12) (k := 81) (v := vi (V x0 81)) dX12_signal_6 rfl (by decide) kf_RX12_473 rfl (h.2 c1).1 ?_
    refine X_icmp_ge dX12_signal_9 (tgt := 26) rfl (fun c2 => ?_) (fun c2 => ?_)
    · refine X_iconst dX12_signal_26 (by decide) ?_
      exact X_ret (z := (-1)) dX12_signal_27 rfl (fun hv => vok_h hv) ((h.2 c1).2.1 c2)
    · refine X_iload_n dX12_signal_12 rfl ?_
      refine X_if_lt dX12_signal_13 (tgt := 26) rfl (fun c3 => ?_) (fun c3 => ?_)
      · refine X_iconst dX12_signal_26 (by decide) ?_
        exact X_ret (z := (-1)) dX12_signal_27 rfl (fun hv => vok_h hv) (((h.2 c1).2.2 c2).1 c3)
      · refine X_iload_n dX12_signal_16 rfl ?_
        refine X_aload_n dX12_signal_17 rfl ?_
        refine X_getfield (ci := 12) (k := 78) (v := vr (V x0 78)) dX12_signal_18 rfl (by decide) kf_RX12_176 rfl (h.2 c1).1 ?_
        refine X_iload_n dX12_signal_21 rfl ?_
        refine X_iaload dX12_signal_22 (((h.2 c1).2.2 c2).2 c3).1 (((h.2 c1).2.2 c2).2 c3).2.1 (((h.2 c1).2.2 c2).2 c3).2.2.1 ?_
        refine X_icmp_lt dX12_signal_23 (tgt := 28) rfl (fun c4 => ?_) (fun c4 => ?_)
        · refine X_aload_n dX12_signal_28 rfl ?_
          refine X_getfield (ci := 12) (k := 79) (v := vr (V x0 79)) dX12_signal_29 rfl (by decide) kf_RX12_179 rfl (h.2 c1).1 ?_
          refine X_bipush dX12_signal_32 (by decide) (by decide) ?_
          refine X_iload_n dX12_signal_34 rfl ?_
          refine X_imulN dX12_signal_35 ((((h.2 c1).2.2 c2).2 c3).2.2.2.1 c4).1 ((((h.2 c1).2.2 c2).2 c3).2.2.2.1 c4).2.1 ?_
          refine X_iload_n dX12_signal_36 rfl ?_
          refine X_iaddN dX12_signal_37 ((((h.2 c1).2.2 c2).2 c3).2.2.2.1 c4).2.2.1 ((((h.2 c1).2.2 c2).2 c3).2.2.2.1 c4).2.2.2.1 ?_
          refine X_iaload dX12_signal_38 ((((h.2 c1).2.2 c2).2 c3).2.2.2.1 c4).2.2.2.2.1 ((((h.2 c1).2.2 c2).2 c3).2.2.2.1 c4).2.2.2.2.2.1 ((((h.2 c1).2.2 c2).2 c3).2.2.2.1 c4).2.2.2.2.2.2.1 ?_
          refine X_istore dX12_signal_39 (by decide) rfl ?_
          refine X_iload_n dX12_signal_41 rfl ?_
          by_cases c5 : x3 = 0
          · refine X_table dX12_signal_42 72 30 (by rw [c5]; rfl) rfl ?_
            refine X_iload dX12_signal_72 rfl ?_
            refine X_bipush dX12_signal_74 (by decide) (by decide) ?_
            refine X_idivP dX12_signal_76 (by decide) ?_
            refine X_bipush dX12_signal_77 (by decide) (by decide) ?_
            refine X_iremP dX12_signal_79 (by decide) ?_
            exact X_ret (z := (((V (V x0 79) ((61 * x1) + x2)).tdiv 24).tmod 12)) dX12_signal_80 rfl (fun hv => vok_h hv) (((((h.2 c1).2.2 c2).2 c3).2.2.2.1 c4).2.2.2.2.2.2.2.1 c5)
          by_cases c6 : x3 = 1
          · refine X_table dX12_signal_42 81 39 (by rw [c6]; rfl) rfl ?_
            refine X_iload dX12_signal_81 rfl ?_
            refine X_bipush dX12_signal_83 (by decide) (by decide) ?_
            refine X_iremP dX12_signal_85 (by decide) ?_
            exact X_ret (z := ((V (V x0 79) ((61 * x1) + x2)).tmod 24)) dX12_signal_86 rfl (fun hv => vok_h hv) ((((((h.2 c1).2.2 c2).2 c3).2.2.2.1 c4).2.2.2.2.2.2.2.2 c5).1 c6)
          by_cases c7 : x3 = 2
          · refine X_table dX12_signal_42 87 45 (by rw [c7]; rfl) rfl ?_
            refine X_aload_n dX12_signal_87 rfl ?_
            refine X_getfield (ci := 12) (k := 80) (v := vr (V x0 80)) dX12_signal_88 rfl (by decide) kf_RX12_182 rfl (h.2 c1).1 ?_
            refine X_bipush dX12_signal_91 (by decide) (by decide) ?_
            refine X_iload_n dX12_signal_93 rfl ?_
            refine X_imulN dX12_signal_94 ((((h.2 c1).2.2 c2).2 c3).2.2.2.1 c4).1 ((((h.2 c1).2.2 c2).2 c3).2.2.2.1 c4).2.1 ?_
            refine X_iload_n dX12_signal_95 rfl ?_
            refine X_iaddN dX12_signal_96 ((((h.2 c1).2.2 c2).2 c3).2.2.2.1 c4).2.2.1 ((((h.2 c1).2.2 c2).2 c3).2.2.2.1 c4).2.2.2.1 ?_
            refine X_iaload dX12_signal_97 (((((((h.2 c1).2.2 c2).2 c3).2.2.2.1 c4).2.2.2.2.2.2.2.2 c5).2 c6).1 c7).1 ((((h.2 c1).2.2 c2).2 c3).2.2.2.1 c4).2.2.2.2.2.1 (((((((h.2 c1).2.2 c2).2 c3).2.2.2.1 c4).2.2.2.2.2.2.2.2 c5).2 c6).1 c7).2.1 ?_
            exact X_ret (z := (V (V x0 80) ((61 * x1) + x2))) dX12_signal_98 rfl (fun hv => vok_h hv) (((((((h.2 c1).2.2 c2).2 c3).2.2.2.1 c4).2.2.2.2.2.2.2.2 c5).2 c6).1 c7).2.2
          by_cases c8 : x3 = 3
          · refine X_table dX12_signal_42 99 57 (by rw [c8]; rfl) rfl ?_
            refine X_aload_n dX12_signal_99 rfl ?_
            refine X_getfield (ci := 12) (k := 77) (v := vr (V x0 77)) dX12_signal_100 rfl (by decide) kf_RX12_173 rfl (h.2 c1).1 ?_
            refine X_iload_n dX12_signal_103 rfl ?_
            refine X_iaload dX12_signal_104 ((((((((h.2 c1).2.2 c2).2 c3).2.2.2.1 c4).2.2.2.2.2.2.2.2 c5).2 c6).2 c7).1 c8).1 (((h.2 c1).2.2 c2).2 c3).2.1 ((((((((h.2 c1).2.2 c2).2 c3).2.2.2.1 c4).2.2.2.2.2.2.2.2 c5).2 c6).2 c7).1 c8).2.1 ?_
            exact X_ret (z := (V (V x0 77) x1)) dX12_signal_105 rfl (fun hv => vok_h hv) ((((((((h.2 c1).2.2 c2).2 c3).2.2.2.1 c4).2.2.2.2.2.2.2.2 c5).2 c6).2 c7).1 c8).2.2
          refine X_table dX12_signal_42 106 64 (tbl_df (by omega)) rfl ?_
          refine X_iconst dX12_signal_106 (by decide) ?_
          exact X_ret (z := (-1)) dX12_signal_107 rfl (fun hv => vok_h hv) ((((((((h.2 c1).2.2 c2).2 c3).2.2.2.1 c4).2.2.2.2.2.2.2.2 c5).2 c6).2 c7).2 c8)
        · refine X_iconst dX12_signal_26 (by decide) ?_
          exact X_ret (z := (-1)) dX12_signal_27 rfl (fun hv => vok_h hv) ((((h.2 c1).2.2 c2).2 c3).2.2.2.2 c4)
theorem qX12_signal {l : Launch} {G : GT} {Q : Int → Sh → Mem → Prop} {d : Nat} {S : Sh} {V : Mem} {mc ms : Nat} {x0 x1 x2 x3 : Int} (h : 0 ≤ x0 → inI x1 → inI x2 → inI x3 → XJ l G bX12_signal Q d 0 [vr x0, vi x1, vi x2, vi x3, vu] [] S V mc ms) : Ct l G bX12_signal Q d mc ms [vr x0, vi x1, vi x2, vi x3] S V := Ct.of okX12_signal.1 trivial (Nat.le_of_ble_eq_true rfl) (fun hv => h (hv _ (List.mem_of_getElem? (i := 0) rfl)) (hv _ (List.mem_of_getElem? (i := 1) rfl)) (hv _ (List.mem_of_getElem? (i := 2) rfl)) (hv _ (List.mem_of_getElem? (i := 3) rfl)))
set_option maxRecDepth 10000 in
theorem vX12_put__0 {l : Launch} {G : GT} {Q : Int → Sh → Mem → Prop} {d : Nat} {S : Sh} {V : Mem} {mc ms : Nat} {x0 x1 : Int} (h : S.1 x0 = 13 ∧ S.1 (V x0 82) = 21 ∧ 0 ≤ (V x0 83) ∧ (V x0 83) < S.2.1 (V x0 82) ∧ -2147483648 ≤ (V x0 83) + 1 ∧ (V x0 83) + 1 ≤ 2147483647 ∧ Q 0 S (up (up V (V x0 82) (V x0 83) (wb (wb x1))) x0 83 ((V x0 83) + 1))) : XJ l G bX12_put_ Q d 0 [vr x0, vi x1] [] S V mc ms := by
  refine X_aload_n dX12_put__0 rfl ?_
  refine X_getfield (ci := 12) (k := 82) (v := vr (V x0 82)) dX12_put__1 rfl (by decide) kf_RX12_185 rfl h.1 ?_
  refine X_aload_n dX12_put__4 rfl ?_
  refine X_getfield (ci := 12) (k := 83) (v := vi (V x0 83)) dX12_put__5 rfl (by decide) kf_RX12_479 rfl h.1 ?_
  refine X_iload_n dX12_put__8 rfl ?_
  refine X_i2b dX12_put__9 ?_
  refine X_bastore dX12_put__10 h.2.1 h.2.2.1 h.2.2.2.1 ?_
  refine X_aload_n dX12_put__11 rfl ?_
  refine X_dup dX12_put__12 (rv_cat _) ?_
  refine X_getfield (ci := 12) (k := 83) (v := vi (V x0 83)) dX12_put__13 rfl (by decide) kf_RX12_479 (congrArg vi (up_ne (Or.inl (tag_ne h.1 h.2.1 (by decide))))) h.1 ?_
  refine X_iconst dX12_put__16 (by decide) ?_
  refine X_iaddN dX12_put__17 h.2.2.2.2.1 h.2.2.2.2.2.1 ?_
  refine X_putfield (ci := 12) (k := 83) (z := ((V x0 83) + 1)) dX12_put__18 rfl (by decide) kf_RX12_479 (Or.inl rfl) (Or.inl rfl) rfl (fun hv => hv) h.1 ?_
  exact X_ret (z := 0) dX12_put__21 rfl (fun _ => trivial) h.2.2.2.2.2.2
theorem qX12_put_ {l : Launch} {G : GT} {Q : Int → Sh → Mem → Prop} {d : Nat} {S : Sh} {V : Mem} {mc ms : Nat} {x0 x1 : Int} (h : 0 ≤ x0 → inI x1 → XJ l G bX12_put_ Q d 0 [vr x0, vi x1] [] S V mc ms) : Ct l G bX12_put_ Q d mc ms [vr x0, vi x1] S V := Ct.of okX12_put_.1 trivial (Nat.le_of_ble_eq_true rfl) (fun hv => h (hv _ (List.mem_of_getElem? (i := 0) rfl)) (hv _ (List.mem_of_getElem? (i := 1) rfl)))
set_option maxRecDepth 10000 in
theorem vX12_decode_0 {l : Launch} {G : GT} {Q : Int → Sh → Mem → Prop} {d : Nat} {S : Sh} {V : Mem} {mc ms : Nat} {x0 x1 : Int} (h : (x1 < 0 → Q (-1) S V) ∧ (¬ (x1 < 0) → S.1 x0 = 13 ∧ (x1 < (V x0 81) → -2147483648 ≤ 61 * x1 ∧ 61 * x1 ≤ 2147483647 ∧ XJ l G bX12_decode Q d 24 [vr x0, vi x1, vi (61 * x1), vu, vu] [] S (up V x0 83 0) mc ms) ∧ (¬ (x1 < (V x0 81)) → Q (-1) S V))) : XJ l G bX12_decode Q d 0 [vr x0, vi x1, vu, vu, vu] [] S V mc ms := by
  refine X_iload_n dX12_decode_0 rfl ?_
  refine X_if_lt dX12_decode_1 (tgt := 12) rfl (fun c1 => ?_) (fun c1 => ?_)
  · refine X_iconst dX12_decode_12 (by decide) ?_
    exact X_ret (z := (-1)) dX12_decode_13 rfl (fun hv => vok_h hv) (h.1 c1)
  · refine X_iload_n dX12_decode_4 rfl ?_
    refine X_aload_n dX12_decode_5 rfl ?_
    refine X_getfield (ci := 12) (k := 81) (v := vi (V x0 81)) dX12_decode_6 rfl (by decide) kf_RX12_473 rfl (h.2 c1).1 ?_
    refine X_icmp_lt dX12_decode_9 (tgt := 14) rfl (fun c2 => ?_) (fun c2 => ?_)
    · refine X_aload_n dX12_decode_14 rfl ?_
      refine X_iconst dX12_decode_15 (by decide) ?_
      refine X_putfield (ci := 12) (k := 83) (z := 0) dX12_decode_16 rfl (by decide) kf_RX12_479 (Or.inl rfl) (Or.inl rfl) rfl (fun hv => hv) (h.2 c1).1 ?_
      refine X_bipush dX12_decode_19 (by decide) (by decide) ?_
      refine X_iload_n dX12_decode_21 rfl ?_
      refine X_imulN dX12_decode_22 ((h.2 c1).2.1 c2).1 ((h.2 c1).2.1 c2).2.1 ?_
      refine X_istore_n dX12_decode_23 (by decide) rfl ?_
      exact ((h.2 c1).2.1 c2).2.2
    · refine X_iconst dX12_decode_12 (by decide) ?_
      exact X_ret (z := (-1)) dX12_decode_13 rfl (fun hv => vok_h hv) ((h.2 c1).2.2 c2)
set_option maxRecDepth 10000 in
theorem vX12_decode_24 {l : Launch} {G : GT} {Q : Int → Sh → Mem → Prop} {d : Nat} {S : Sh} {V : Mem} {mc ms : Nat} {x0 x1 x2 : Int} (h : -2147483648 ≤ 61 * x1 ∧ 61 * x1 ≤ 2147483647 ∧ S.1 x0 = 13 ∧ S.1 (V x0 78) = 20 ∧ 0 ≤ x1 ∧ x1 < S.2.1 (V x0 78) ∧ -2147483648 ≤ (61 * x1) + (V (V x0 78) x1) ∧ (61 * x1) + (V (V x0 78) x1) ≤ 2147483647 ∧ (((61 * x1) + (V (V x0 78) x1)) ≤ x2 → XJ l G bX12_decode Q d 193 [vr x0, vi x1, vi 0, vu, vu] [] S (up V x0 2 (V x0 83)) mc ms) ∧ (¬ (((61 * x1) + (V (V x0 78) x1)) ≤ x2) → ((V x0 83) ≤ 0 → S.1 (V x0 79) = 20 ∧ 0 ≤ x2 ∧ x2 < S.2.1 (V x0 79) ∧ S.1 (V x0 20) = 20 ∧ 0 ≤ (V (V x0 79) x2) ∧ (V (V x0 79) x2) < S.2.1 (V x0 20) ∧ XJ l G bX12_decode Q d 67 [vr x0, vi x1, vi x2, vi (V (V x0 20) (V (V x0 79) x2)), vi 0] [] S V mc ms) ∧ (¬ ((V x0 83) ≤ 0) → CT l G bX12_put_ d mc ms [vr x0, vi 32] S V (fun z3 S3 V3 mc3 ms3 => S3.1 x0 = 13 ∧ S3.1 (V3 x0 79) = 20 ∧ 0 ≤ x2 ∧ x2 < S3.2.1 (V3 x0 79) ∧ S3.1 (V3 x0 20) = 20 ∧ 0 ≤ (V3 (V3 x0 79) x2) ∧ (V3 (V3 x0 79) x2) < S3.2.1 (V3 x0 20) ∧ XJ l G bX12_decode Q d 67 [vr x0, vi x1, vi x2, vi (V3 (V3 x0 20) (V3 (V3 x0 79) x2)), vi 0] [] S3 V3 mc3 ms3)))) : XJ l G bX12_decode Q d 24 [vr x0, vi x1, vi x2, vu, vu] [] S V mc ms := by
  refine X_iload_n dX12_decode_24 rfl ?_
  refine X_bipush dX12_decode_25 (by decide) (by decide) ?_
  refine X_iload_n dX12_decode_27 rfl ?_
  refine X_imulN dX12_decode_28 h.1 h.2.1 ?_
  refine X_aload_n dX12_decode_29 rfl ?_
  refine X_getfield (ci := 12) (k := 78) (v := vr (V x0 78)) dX12_decode_30 rfl (by decide) kf_RX12_176 rfl h.2.2.1 ?_
  refine X_iload_n dX12_decode_33 rfl ?_
  refine X_iaload dX12_decode_34 h.2.2.2.1 h.2.2.2.2.1 h.2.2.2.2.2.1 ?_
  refine X_iaddN dX12_decode_35 h.2.2.2.2.2.2.1 h.2.2.2.2.2.2.2.1 ?_
  refine X_icmp_ge dX12_decode_36 (tgt := 183) rfl (fun c1 => ?_) (fun c1 => ?_)
  · refine X_aload_n dX12_decode_183 rfl ?_
    refine X_aload_n dX12_decode_184 rfl ?_
    refine X_getfield (ci := 12) (k := 83) (v := vi (V x0 83)) dX12_decode_185 rfl (by decide) kf_RX12_479 rfl h.2.2.1 ?_
    refine X_putfield (ci := 12) (k := 2) (z := (V x0 83)) dX12_decode_188 rfl (by decide) kf_RX12_192 (Or.inl rfl) (Or.inl rfl) rfl (fun hv => hv) h.2.2.1 ?_
    refine X_iconst dX12_decode_191 (by decide) ?_
    refine X_istore_n dX12_decode_192 (by decide) rfl ?_
    exact (h.2.2.2.2.2.2.2.2.1 c1)
  · refine X_aload_n dX12_decode_39 rfl ?_
    refine X_getfield (ci := 12) (k := 83) (v := vi (V x0 83)) dX12_decode_40 rfl (by decide) kf_RX12_479 rfl h.2.2.1 ?_
    refine X_if_le dX12_decode_43 (tgt := 52) rfl (fun c2 => ?_) (fun c2 => ?_)
    · refine X_aload_n dX12_decode_52 rfl ?_
      refine X_getfield (ci := 12) (k := 20) (v := vr (V x0 20)) dX12_decode_53 rfl (by decide) kf_RX12_47 rfl h.2.2.1 ?_
      refine X_aload_n dX12_decode_56 rfl ?_
      refine X_getfield (ci := 12) (k := 79) (v := vr (V x0 79)) dX12_decode_57 rfl (by decide) kf_RX12_179 rfl h.2.2.1 ?_
      refine X_iload_n dX12_decode_60 rfl ?_
      refine X_iaload dX12_decode_61 ((h.2.2.2.2.2.2.2.2.2 c1).1 c2).1 ((h.2.2.2.2.2.2.2.2.2 c1).1 c2).2.1 ((h.2.2.2.2.2.2.2.2.2 c1).1 c2).2.2.1 ?_
      refine X_iaload dX12_decode_62 ((h.2.2.2.2.2.2.2.2.2 c1).1 c2).2.2.2.1 ((h.2.2.2.2.2.2.2.2.2 c1).1 c2).2.2.2.2.1 ((h.2.2.2.2.2.2.2.2.2 c1).1 c2).2.2.2.2.2.1 ?_
      refine X_istore_n dX12_decode_63 (by decide) rfl ?_
      refine X_iconst dX12_decode_64 (by decide) ?_
      refine X_istore dX12_decode_65 (by decide) rfl ?_
      exact ((h.2.2.2.2.2.2.2.2.2 c1).1 c2).2.2.2.2.2.2
    · refine X_aload_n dX12_decode_46 rfl ?_
      refine X_bipush dX12_decode_47 (by decide) (by decide) ?_
      refine X_invV (ci := 12) (as := [vi 32]) (st := []) okX12_put_ dX12_decode_49 km_RX12_482 rfl rfl (Nat.le_of_ble_eq_true rfl) rfl rfl h.2.2.1 (CT.imp ((h.2.2.2.2.2.2.2.2.2 c1).2 c2) (fun z3 S3 V3 mc3 ms3 hc4 => ?_))
      refine X_aload_n dX12_decode_52 rfl ?_
      refine X_getfield (ci := 12) (k := 20) (v := vr (V3 x0 20)) dX12_decode_53 rfl (by decide) kf_RX12_47 rfl hc4.1 ?_
      refine X_aload_n dX12_decode_56 rfl ?_
      refine X_getfield (ci := 12) (k := 79) (v := vr (V3 x0 79)) dX12_decode_57 rfl (by decide) kf_RX12_179 rfl hc4.1 ?_
      refine X_iload_n dX12_decode_60 rfl ?_
      refine X_iaload dX12_decode_61 hc4.2.1 hc4.2.2.1 hc4.2.2.2.1 ?_
      refine X_iaload dX12_decode_62 hc4.2.2.2.2.1 hc4.2.2.2.2.2.1 hc4.2.2.2.2.2.2.1 ?_
      refine X_istore_n dX12_decode_63 (by decide) rfl ?_
      refine X_iconst dX12_decode_64 (by decide) ?_
      refine X_istore dX12_decode_65 (by decide) rfl ?_
      exact hc4.2.2.2.2.2.2.2
set_option maxRecDepth 10000 in
theorem vX12_decode_67 {l : Launch} {G : GT} {Q : Int → Sh → Mem → Prop} {d : Nat} {S : Sh} {V : Mem} {mc ms : Nat} {x0 x1 x2 x3 x4 : Int} (h : ((x3.tmod 16) ≤ x4 → S.1 x0 = 13 ∧ S.1 (V x0 80) = 20 ∧ 0 ≤ x2 ∧ x2 < S.2.1 (V x0 80) ∧ ((V (V x0 80) x2) ≠ 0 → CT l G bX12_put_ d mc ms [vr x0, vi 32] S V (fun z3 S3 V3 mc3 ms3 => XJ l G bX12_decode Q d 119 [vr x0, vi x1, vi x2, vi x3, vi 1] [] S3 V3 mc3 ms3)) ∧ (¬ ((V (V x0 80) x2) ≠ 0) → -2147483648 ≤ x2 + 1 ∧ x2 + 1 ≤ 2147483647 ∧ XJ l G bX12_decode Q d 24 [vr x0, vi x1, vi (x2 + 1), vu, vu] [] S V mc ms)) ∧ (¬ ((x3.tmod 16) ≤ x4) → S.1 x0 = 13 ∧ -2147483648 ≤ (x3.tdiv 16) + x4 ∧ (x3.tdiv 16) + x4 ≤ 2147483647 ∧ S.1 (V x0 7) = 21 ∧ 0 ≤ ((x3.tdiv 16) + x4) ∧ ((x3.tdiv 16) + x4) < S.2.1 (V x0 7) ∧ CT l G bX12_put_ d mc ms [vr x0, vi (V (V x0 7) ((x3.tdiv 16) + x4))] S V (fun z5 S5 V5 mc5 ms5 => -2147483648 ≤ x4 + 1 ∧ x4 + 1 ≤ 2147483647 ∧ XJ l G bX12_decode Q d 67 [vr x0, vi x1, vi x2, vi x3, vi (x4 + 1)] [] S5 V5 mc5 ms5))) : XJ l G bX12_decode Q d 67 [vr x0, vi x1, vi x2, vi x3, vi x4] [] S V mc ms := by
  refine X_iload dX12_decode_67 rfl ?_
  refine X_iload_n dX12_decode_69 rfl ?_
  refine X_bipush dX12_decode_70 (by decide) (by decide) ?_
  refine X_iremP dX12_decode_72 (by decide) ?_
  refine X_icmp_ge dX12_decode_73 (tgt := 98) rfl (fun c1 => ?_) (fun c1 => ?_)
  · refine X_aload_n dX12_decode_98 rfl ?_
    refine X_getfield (ci := 12) (k := 80) (v := vr (V x0 80)) dX12_decode_99 rfl (by decide) kf_RX12_182 rfl (h.1 c1).1 ?_
    refine X_iload_n dX12_decode_102 rfl ?_
    refine X_iaload dX12_decode_103 (h.1 c1).2.1 (h.1 c1).2.2.1 (h.1 c1).2.2.2.1 ?_
    refine X_if_ne dX12_decode_104 (tgt := 110) rfl (fun c2 => ?_) (fun c2 => ?_)
    · refine X_aload_n dX12_decode_110 rfl ?_
      refine X_bipush dX12_decode_111 (by decide) (by decide) ?_
      refine X_invV (ci := 12) (as := [vi 32]) (st := []) okX12_put_ dX12_decode_113 km_RX12_482 rfl rfl (Nat.le_of_ble_eq_true rfl) rfl rfl (h.1 c1).1 (CT.imp ((h.1 c1).2.2.2.2.1 c2) (fun z3 S3 V3 mc3 ms3 hc4 => ?_))
      refine X_iconst dX12_decode_116 (by decide) ?_
      refine X_istore dX12_decode_117 (by decide) rfl ?_
      exact hc4
    · refine X_goto dX12_decode_107 (tgt := 177) rfl ?_
      refine X_iincN dX12_decode_177 rfl (by decide) rfl (e := x2 + 1) rfl ((h.1 c1).2.2.2.2.2 c2).1 ((h.1 c1).2.2.2.2.2 c2).2.1 ?_
      refine X_goto dX12_decode_180 (tgt := 24) rfl ?_
      exact X_weak [false, false, false, true, true] ((h.1 c1).2.2.2.2.2 c2).2.2
  · refine X_aload_n dX12_decode_76 rfl ?_
    refine X_aload_n dX12_decode_77 rfl ?_
    refine X_getfield (ci := 12) (k := 7) (v := vr (V x0 7)) dX12_decode_78 rfl (by decide) kf_RX12_13 rfl (h.2 c1).1 ?_
    refine X_iload_n dX12_decode_81 rfl ?_
    refine X_bipush dX12_decode_82 (by decide) (by decide) ?_
    refine X_idivP dX12_decode_84 (by decide) ?_
    refine X_iload dX12_decode_85 rfl ?_
    refine X_iaddN dX12_decode_87 (h.2 c1).2.1 (h.2 c1).2.2.1 ?_
    refine X_baload dX12_decode_88 (h.2 c1).2.2.2.1 (h.2 c1).2.2.2.2.1 (h.2 c1).2.2.2.2.2.1 ?_
    refine X_invV (ci := 12) (as := [vi (V (V x0 7) ((x3.tdiv 16) + x4))]) (st := []) okX12_put_ dX12_decode_89 km_RX12_482 rfl rfl (Nat.le_of_ble_eq_true rfl) rfl rfl (h.2 c1).1 (CT.imp (h.2 c1).2.2.2.2.2.2 (fun z5 S5 V5 mc5 ms5 hc6 => ?_))
    refine X_iincN dX12_decode_92 rfl (by decide) rfl (e := x4 + 1) rfl hc6.1 hc6.2.1 ?_
    refine X_goto dX12_decode_95 (tgt := 67) rfl ?_
    exact hc6.2.2
set_option maxRecDepth 10000 in
theorem vX12_decode_119 {l : Launch} {G : GT} {Q : Int → Sh → Mem → Prop} {d : Nat} {S : Sh} {V : Mem} {mc ms : Nat} {x0 x1 x2 x3 x4 : Int} (h : S.1 x0 = 13 ∧ S.1 (V x0 80) = 20 ∧ 0 ≤ x2 ∧ x2 < S.2.1 (V x0 80) ∧ 0 < x4 ∧ (((V (V x0 80) x2).tdiv x4) ≤ 9 → XJ l G bX12_decode Q d 143 [vr x0, vi x1, vi x2, vi x3, vi x4] [] S V mc ms) ∧ (¬ (((V (V x0 80) x2).tdiv x4) ≤ 9) → -2147483648 ≤ x4 * 10 ∧ x4 * 10 ≤ 2147483647 ∧ XJ l G bX12_decode Q d 119 [vr x0, vi x1, vi x2, vi x3, vi (x4 * 10)] [] S V mc ms)) : XJ l G bX12_decode Q d 119 [vr x0, vi x1, vi x2, vi x3, vi x4] [] S V mc ms := by
  refine X_aload_n dX12_decode_119 rfl ?_
  refine X_getfield (ci := 12) (k := 80) (v := vr (V x0 80)) dX12_decode_120 rfl (by decide) kf_RX12_182 rfl h.1 ?_
  refine X_iload_n dX12_decode_123 rfl ?_
  refine X_iaload dX12_decode_124 h.2.1 h.2.2.1 h.2.2.2.1 ?_
  refine X_iload dX12_decode_125 rfl ?_
  refine X_idivP dX12_decode_127 h.2.2.2.2.1 ?_
  refine X_bipush dX12_decode_128 (by decide) (by decide) ?_
  refine X_icmp_le dX12_decode_130 (tgt := 143) rfl (fun c1 => ?_) (fun c1 => ?_)
  · exact (h.2.2.2.2.2.1 c1)
  · refine X_iload dX12_decode_133 rfl ?_
    refine X_bipush dX12_decode_135 (by decide) (by decide) ?_
    refine X_imulN dX12_decode_137 (h.2.2.2.2.2.2 c1).1 (h.2.2.2.2.2.2 c1).2.1 ?_
    refine X_istore dX12_decode_138 (by decide) rfl ?_
    refine X_goto dX12_decode_140 (tgt := 119) rfl ?_
    exact (h.2.2.2.2.2.2 c1).2.2
set_option maxRecDepth 10000 in
theorem vX12_decode_143 {l : Launch} {G : GT} {Q : Int → Sh → Mem → Prop} {d : Nat} {S : Sh} {V : Mem} {mc ms : Nat} {x0 x1 x2 x3 x4 : Int} (h : (x4 ≤ 0 → -2147483648 ≤ x2 + 1 ∧ x2 + 1 ≤ 2147483647 ∧ XJ l G bX12_decode Q d 24 [vr x0, vi x1, vi (x2 + 1), vu, vu] [] S V mc ms) ∧ (¬ (x4 ≤ 0) → S.1 x0 = 13 ∧ S.1 (V x0 80) = 20 ∧ 0 ≤ x2 ∧ x2 < S.2.1 (V x0 80) ∧ 0 < x4 ∧ -2147483648 ≤ 48 + (((V (V x0 80) x2).tdiv x4).tmod 10) ∧ 48 + (((V (V x0 80) x2).tdiv x4).tmod 10) ≤ 2147483647 ∧ CT l G bX12_put_ d mc ms [vr x0, vi (48 + (((V (V x0 80) x2).tdiv x4).tmod 10))] S V (fun z2 S2 V2 mc2 ms2 => XJ l G bX12_decode Q d 143 [vr x0, vi x1, vi x2, vi x3, vi (x4.tdiv 10)] [] S2 V2 mc2 ms2))) : XJ l G bX12_decode Q d 143 [vr x0, vi x1, vi x2, vi x3, vi x4] [] S V mc ms := by
  refine X_iload dX12_decode_143 rfl ?_
  refine X_if_le dX12_decode_145 (tgt := 177) rfl (fun c1 => ?_) (fun c1 => ?_)
  · refine X_iincN dX12_decode_177 rfl (by decide) rfl (e := x2 + 1) rfl (h.1 c1).1 (h.1 c1).2.1 ?_
    refine X_goto dX12_decode_180 (tgt := 24) rfl ?_
    exact X_weak [false, false, false, true, true] (h.1 c1).2.2
  · refine X_aload_n dX12_decode_148 rfl ?_
    refine X_bipush dX12_decode_149 (by decide) (by decide) ?_
    refine X_aload_n dX12_decode_151 rfl ?_
    refine X_getfield (ci := 12) (k := 80) (v := vr (V x0 80)) dX12_decode_152 rfl (by decide) kf_RX12_182 rfl (h.2 c1).1 ?_
    refine X_iload_n dX12_decode_155 rfl ?_
    refine X_iaload dX12_decode_156 (h.2 c1).2.1 (h.2 c1).2.2.1 (h.2 c1).2.2.2.1 ?_
    refine X_iload dX12_decode_157 rfl ?_
    refine X_idivP dX12_decode_159 (h.2 c1).2.2.2.2.1 ?_
    refine X_bipush dX12_decode_160 (by decide) (by decide) ?_
    refine X_iremP dX12_decode_162 (by decide) ?_
    refine X_iaddN dX12_decode_163 (h.2 c1).2.2.2.2.2.1 (h.2 c1).2.2.2.2.2.2.1 ?_
    refine X_invV (ci := 12) (as := [vi (48 + (((V (V x0 80) x2).tdiv x4).tmod 10))]) (st := []) okX12_put_ dX12_decode_164 km_RX12_482 rfl rfl (Nat.le_of_ble_eq_true rfl) rfl rfl (h.2 c1).1 (CT.imp (h.2 c1).2.2.2.2.2.2.2 (fun z2 S2 V2 mc2 ms2 hc3 => ?_))
    refine X_iload dX12_decode_167 rfl ?_
    refine X_bipush dX12_decode_169 (by decide) (by decide) ?_
    refine X_idivP dX12_decode_171 (by decide) ?_
    refine X_istore dX12_decode_172 (by decide) rfl ?_
    refine X_goto dX12_decode_174 (tgt := 143) rfl ?_
    exact hc3
set_option maxRecDepth 10000 in
theorem vX12_decode_193 {l : Launch} {G : GT} {Q : Int → Sh → Mem → Prop} {d : Nat} {S : Sh} {V : Mem} {mc ms : Nat} {x0 x1 x2 : Int} (h : S.1 x0 = 13 ∧ ((V x0 83) ≤ x2 → Q (V x0 83) S V) ∧ (¬ ((V x0 83) ≤ x2) → S.1 (V x0 82) = 21 ∧ 0 ≤ x2 ∧ x2 < S.2.1 (V x0 82) ∧ S.1 (V x0 1) = 21 ∧ x2 < S.2.1 (V x0 1) ∧ -2147483648 ≤ x2 + 1 ∧ x2 + 1 ≤ 2147483647 ∧ XJ l G bX12_decode Q d 193 [vr x0, vi x1, vi (x2 + 1), vu, vu] [] S (up V (V x0 1) x2 (wb (V (V x0 82) x2))) mc ms)) : XJ l G bX12_decode Q d 193 [vr x0, vi x1, vi x2, vu, vu] [] S V mc ms := by
  refine X_iload_n dX12_decode_193 rfl ?_
  refine X_aload_n dX12_decode_194 rfl ?_
  refine X_getfield (ci := 12) (k := 83) (v := vi (V x0 83)) dX12_decode_195 rfl (by decide) kf_RX12_479 rfl h.1 ?_
  refine X_icmp_ge dX12_decode_198 (tgt := 219) rfl (fun c1 => ?_) (fun c1 => ?_)
  · refine X_aload_n dX12_decode_219 rfl ?_
    refine X_getfield (ci := 12) (k := 83) (v := vi (V x0 83)) dX12_decode_220 rfl (by decide) kf_RX12_479 rfl h.1 ?_
    exact X_ret (z := (V x0 83)) dX12_decode_223 rfl (fun hv => vok_h hv) (h.2.1 c1)
  · refine X_aload_n dX12_decode_201 rfl ?_
    refine X_getfield (ci := 12) (k := 1) (v := vr (V x0 1)) dX12_decode_202 rfl (by decide) kf_RX12_7 rfl h.1 ?_
    refine X_iload_n dX12_decode_205 rfl ?_
    refine X_aload_n dX12_decode_206 rfl ?_
    refine X_getfield (ci := 12) (k := 82) (v := vr (V x0 82)) dX12_decode_207 rfl (by decide) kf_RX12_185 rfl h.1 ?_
    refine X_iload_n dX12_decode_210 rfl ?_
    refine X_baload dX12_decode_211 (h.2.2 c1).1 (h.2.2 c1).2.1 (h.2.2 c1).2.2.1 ?_
    refine X_bastore dX12_decode_212 (h.2.2 c1).2.2.2.1 (h.2.2 c1).2.1 (h.2.2 c1).2.2.2.2.1 ?_
    refine X_iincN dX12_decode_213 rfl (by decide) rfl (e := x2 + 1) rfl (h.2.2 c1).2.2.2.2.2.1 (h.2.2 c1).2.2.2.2.2.2.1 ?_
    refine X_goto dX12_decode_216 (tgt := 193) rfl ?_
    exact (h.2.2 c1).2.2.2.2.2.2.2
theorem qX12_decode {l : Launch} {G : GT} {Q : Int → Sh → Mem → Prop} {d : Nat} {S : Sh} {V : Mem} {mc ms : Nat} {x0 x1 : Int} (h : 0 ≤ x0 → inI x1 → XJ l G bX12_decode Q d 0 [vr x0, vi x1, vu, vu, vu] [] S V mc ms) : Ct l G bX12_decode Q d mc ms [vr x0, vi x1] S V := Ct.of okX12_decode.1 trivial (Nat.le_of_ble_eq_true rfl) (fun hv => h (hv _ (List.mem_of_getElem? (i := 0) rfl)) (hv _ (List.mem_of_getElem? (i := 1) rfl)))
