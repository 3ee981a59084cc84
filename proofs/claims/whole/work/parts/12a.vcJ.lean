set_option maxRecDepth 10000 in
theorem vJ0_length_8abf5_0 {l : Launch} {G : GT} {Q : Int → Sh → Mem → Prop} {d : Nat} {S : Sh} {V : Mem} {mc ms : Nat} {i : Nat} (hi : i < 16) (h : CT l G bJ0_coder_7d493 d mc ms [vr ((G.2.2.2.1 i : Int) + 1)] S V (fun z1 S1 V1 mc1 ms1 => Q (bShr (js_len.getD i 0 : Nat) z1) S1 V1)) : XJ l G bJ0_length_8abf5 Q d 0 [vr ((G.2.2.2.1 i : Int) + 1)] [] S V mc ms := by
  refine X_aload_n dJ0_length_8abf5_0 rfl ?_
  refine X_sval (i := i) dJ0_length_8abf5_1 kf_RJ0_9 hi ?_
  refine X_slen (i := i) dJ0_length_8abf5_4 hi ?_
  refine X_aload_n dJ0_length_8abf5_5 rfl ?_
  refine X_invStr (i := i) (as := []) (st := [vi (js_len.getD i 0 : Nat)]) okJ0_coder_7d493 dJ0_length_8abf5_6 km_RJ0_335 rfl rfl (Nat.le_of_ble_eq_true rfl) hi rfl (CT.imp h (fun z1 S1 V1 mc1 ms1 hc2 => ?_))
  refine X_ishr dJ0_length_8abf5_9 ?_
  exact X_ret (z := (bShr (js_len.getD i 0 : Nat) z1)) dJ0_length_8abf5_10 rfl (fun hv => vok_h hv) hc2
theorem qJ0_length_8abf5 {l : Launch} {G : GT} {Q : Int → Sh → Mem → Prop} {d : Nat} {S : Sh} {V : Mem} {mc ms : Nat} {i : Nat} (hi : i < 16) (h : XJ l G bJ0_length_8abf5 Q d 0 [vr ((G.2.2.2.1 i : Int) + 1)] [] S V mc ms) : Ct l G bJ0_length_8abf5 Q d mc ms [vr ((G.2.2.2.1 i : Int) + 1)] S V := Ct.of okJ0_length_8abf5.1 trivial (Nat.le_of_ble_eq_true rfl) (fun hv => h )
set_option maxRecDepth 10000 in
theorem vJ0_charAt_5068e_0 {l : Launch} {G : GT} {Q : Int → Sh → Mem → Prop} {d : Nat} {S : Sh} {V : Mem} {mc ms : Nat} {i : Nat} (hi : i < 16) {x1 : Int} (h : CT l G bJ0_isLatin1_aae02 d mc ms [vr ((G.2.2.2.1 i : Int) + 1)] S V (fun z1 S1 V1 mc1 ms1 => (z1 = 0 → False) ∧ (¬ (z1 = 0) → CT l G bJ1_charAt_3b067 d mc1 ms1 [vr ((G.2.2.2.2.1 i : Int) + 1), vi x1] S1 V1 (fun z4 S4 V4 mc4 ms4 => 0 ≤ z4 ∧ z4 ≤ 65535 ∧ Q z4 S4 V4)))) : XJ l G bJ0_charAt_5068e Q d 0 [vr ((G.2.2.2.1 i : Int) + 1), vi x1] [] S V mc ms := by
  refine X_aload_n dJ0_charAt_5068e_0 rfl ?_
  refine X_invStr (i := i) (as := []) (st := []) okJ0_isLatin1_aae02 dJ0_charAt_5068e_1 km_RJ0_492 rfl rfl (Nat.le_of_ble_eq_true rfl) hi rfl (CT.imp h (fun z1 S1 V1 mc1 ms1 hc2 => ?_))
  refine X_if_eq dJ0_charAt_5068e_4 (tgt := 16) rfl (fun c3 => ?_) (fun c3 => ?_)
  · refine X_aload_n dJ0_charAt_5068e_16 rfl ?_
    refine X_sval (i := i) dJ0_charAt_5068e_17 kf_RJ0_9 hi ?_
    refine X_iload_n dJ0_charAt_5068e_20 rfl ?_
    exact ((hc2.1 c3)).elim
  · refine X_aload_n dJ0_charAt_5068e_7 rfl ?_
    refine X_sval (i := i) dJ0_charAt_5068e_8 kf_RJ0_9 hi ?_
    refine X_iload_n dJ0_charAt_5068e_11 rfl ?_
    refine X_invS (as := [vr ((G.2.2.2.2.1 i : Int) + 1), vi x1]) (st := []) okJ1_charAt_3b067 dJ0_charAt_5068e_12 km_RJ0_495 rfl rfl (Nat.le_of_ble_eq_true rfl) (CT.imp (hc2.2 c3) (fun z4 S4 V4 mc4 ms4 hc5 => ?_))
    exact X_ret (z := z4) dJ0_charAt_5068e_15 rfl (fun _ => ⟨hc5.1, hc5.2.1⟩) hc5.2.2
theorem qJ0_charAt_5068e {l : Launch} {G : GT} {Q : Int → Sh → Mem → Prop} {d : Nat} {S : Sh} {V : Mem} {mc ms : Nat} {i : Nat} (hi : i < 16) {x1 : Int} (h : inI x1 → XJ l G bJ0_charAt_5068e Q d 0 [vr ((G.2.2.2.1 i : Int) + 1), vi x1] [] S V mc ms) : Ct l G bJ0_charAt_5068e Q d mc ms [vr ((G.2.2.2.1 i : Int) + 1), vi x1] S V := Ct.of okJ0_charAt_5068e.1 trivial (Nat.le_of_ble_eq_true rfl) (fun hv => h (hv _ (List.mem_of_getElem? (i := 1) rfl)))
set_option maxRecDepth 10000 in
theorem vJ0_indexOf_0f7a4_0 {l : Launch} {G : GT} {Q : Int → Sh → Mem → Prop} {d : Nat} {S : Sh} {V : Mem} {mc ms : Nat} {i : Nat} (hi : i < 16) {x1 : Int} (h : CT l G bJ0_indexOf_7cf53 d mc ms [vr ((G.2.2.2.1 i : Int) + 1), vi x1, vi 0] S V (fun z1 S1 V1 mc1 ms1 => Q z1 S1 V1)) : XJ l G bJ0_indexOf_0f7a4 Q d 0 [vr ((G.2.2.2.1 i : Int) + 1), vi x1] [] S V mc ms := by
  refine X_aload_n dJ0_indexOf_0f7a4_0 rfl ?_
  refine X_iload_n dJ0_indexOf_0f7a4_1 rfl ?_
  refine X_iconst dJ0_indexOf_0f7a4_2 (by decide) ?_
  refine X_invStr (i := i) (as := [vi x1, vi 0]) (st := []) okJ0_indexOf_7cf53 dJ0_indexOf_0f7a4_3 km_RJ0_633 rfl rfl (Nat.le_of_ble_eq_true rfl) hi rfl (CT.imp h (fun z1 S1 V1 mc1 ms1 hc2 => ?_))
  exact X_ret (z := z1) dJ0_indexOf_0f7a4_6 rfl (fun hv => vok_h hv) hc2
theorem qJ0_indexOf_0f7a4 {l : Launch} {G : GT} {Q : Int → Sh → Mem → Prop} {d : Nat} {S : Sh} {V : Mem} {mc ms : Nat} {i : Nat} (hi : i < 16) {x1 : Int} (h : inI x1 → XJ l G bJ0_indexOf_0f7a4 Q d 0 [vr ((G.2.2.2.1 i : Int) + 1), vi x1] [] S V mc ms) : Ct l G bJ0_indexOf_0f7a4 Q d mc ms [vr ((G.2.2.2.1 i : Int) + 1), vi x1] S V := Ct.of okJ0_indexOf_0f7a4.1 trivial (Nat.le_of_ble_eq_true rfl) (fun hv => h (hv _ (List.mem_of_getElem? (i := 1) rfl)))
set_option maxRecDepth 10000 in
theorem vJ0_indexOf_7cf53_0 {l : Launch} {G : GT} {Q : Int → Sh → Mem → Prop} {d : Nat} {S : Sh} {V : Mem} {mc ms : Nat} {i : Nat} (hi : i < 16) {x1 x2 : Int} (h : CT l G bJ0_isLatin1_aae02 d mc ms [vr ((G.2.2.2.1 i : Int) + 1)] S V (fun z1 S1 V1 mc1 ms1 => (z1 = 0 → CT l G bJ0_length_8abf5 d mc1 ms1 [vr ((G.2.2.2.1 i : Int) + 1)] S1 V1 (fun z4 S4 V4 mc4 ms4 => False)) ∧ (¬ (z1 = 0) → CT l G bJ0_length_8abf5 d mc1 ms1 [vr ((G.2.2.2.1 i : Int) + 1)] S1 V1 (fun z6 S6 V6 mc6 ms6 => CT l G bJ1_indexOf_4cfef d mc6 ms6 [vr ((G.2.2.2.2.1 i : Int) + 1), vi x1, vi x2, vi z6] S6 V6 (fun z8 S8 V8 mc8 ms8 => Q z8 S8 V8))))) : XJ l G bJ0_indexOf_7cf53 Q d 0 [vr ((G.2.2.2.1 i : Int) + 1), vi x1, vi x2] [] S V mc ms := by
  refine X_aload_n dJ0_indexOf_7cf53_0 rfl ?_
  refine X_invStr (i := i) (as := []) (st := []) okJ0_isLatin1_aae02 dJ0_indexOf_7cf53_1 km_RJ0_492 rfl rfl (Nat.le_of_ble_eq_true rfl) hi rfl (CT.imp h (fun z1 S1 V1 mc1 ms1 hc2 => ?_))
  refine X_if_eq dJ0_indexOf_7cf53_4 (tgt := 23) rfl (fun c3 => ?_) (fun c3 => ?_)
  · refine X_aload_n dJ0_indexOf_7cf53_23 rfl ?_
    refine X_sval (i := i) dJ0_indexOf_7cf53_24 kf_RJ0_9 hi ?_
    refine X_iload_n dJ0_indexOf_7cf53_27 rfl ?_
    refine X_iload_n dJ0_indexOf_7cf53_28 rfl ?_
    refine X_aload_n dJ0_indexOf_7cf53_29 rfl ?_
    refine X_invStr (i := i) (as := []) (st := [vi x2, vi x1, vr ((G.2.2.2.2.1 i : Int) + 1)]) okJ0_length_8abf5 dJ0_indexOf_7cf53_30 km_RJ0_505 rfl rfl (Nat.le_of_ble_eq_true rfl) hi rfl (CT.imp (hc2.1 c3) (fun z4 S4 V4 mc4 ms4 hc5 => ?_))
    exact (hc5).elim
  · refine X_aload_n dJ0_indexOf_7cf53_7 rfl ?_
    refine X_sval (i := i) dJ0_indexOf_7cf53_8 kf_RJ0_9 hi ?_
    refine X_iload_n dJ0_indexOf_7cf53_11 rfl ?_
    refine X_iload_n dJ0_indexOf_7cf53_12 rfl ?_
    refine X_aload_n dJ0_indexOf_7cf53_13 rfl ?_
    refine X_invStr (i := i) (as := []) (st := [vi x2, vi x1, vr ((G.2.2.2.2.1 i : Int) + 1)]) okJ0_length_8abf5 dJ0_indexOf_7cf53_14 km_RJ0_505 rfl rfl (Nat.le_of_ble_eq_true rfl) hi rfl (CT.imp (hc2.2 c3) (fun z6 S6 V6 mc6 ms6 hc7 => ?_))
    refine X_invS (as := [vr ((G.2.2.2.2.1 i : Int) + 1), vi x1, vi x2, vi z6]) (st := []) okJ1_indexOf_4cfef dJ0_indexOf_7cf53_17 km_RJ0_637 rfl rfl (Nat.le_of_ble_eq_true rfl) (CT.imp hc7 (fun z8 S8 V8 mc8 ms8 hc9 => ?_))
    refine X_goto dJ0_indexOf_7cf53_20 (tgt := 36) rfl ?_
    exact X_ret (z := z8) dJ0_indexOf_7cf53_36 rfl (fun hv => vok_h hv) hc9
theorem qJ0_indexOf_7cf53 {l : Launch} {G : GT} {Q : Int → Sh → Mem → Prop} {d : Nat} {S : Sh} {V : Mem} {mc ms : Nat} {i : Nat} (hi : i < 16) {x1 x2 : Int} (h : inI x1 → inI x2 → XJ l G bJ0_indexOf_7cf53 Q d 0 [vr ((G.2.2.2.1 i : Int) + 1), vi x1, vi x2] [] S V mc ms) : Ct l G bJ0_indexOf_7cf53 Q d mc ms [vr ((G.2.2.2.1 i : Int) + 1), vi x1, vi x2] S V := Ct.of okJ0_indexOf_7cf53.1 trivial (Nat.le_of_ble_eq_true rfl) (fun hv => h (hv _ (List.mem_of_getElem? (i := 1) rfl)) (hv _ (List.mem_of_getElem? (i := 2) rfl)))
set_option maxRecDepth 10000 in
theorem vJ0_coder_7d493_0 {l : Launch} {G : GT} {Q : Int → Sh → Mem → Prop} {d : Nat} {S : Sh} {V : Mem} {mc ms : Nat} {i : Nat} (hi : i < 16) (h : (-128) ≤ (0 : Int) ∧ (0 : Int) ≤ 127 ∧ Q 0 S V) : XJ l G bJ0_coder_7d493 Q d 0 [vr ((G.2.2.2.1 i : Int) + 1)] [] S V mc ms := by
  refine X_compact dJ0_coder_7d493_0 kf_RJ0_38 ?_
  refine X_if_eq dJ0_coder_7d493_3 (tgt := 13) rfl (fun c => absurd c (by decide)) (fun _ => ?_)
  refine X_aload_n dJ0_coder_7d493_6 rfl ?_
  refine X_scoder (i := i) dJ0_coder_7d493_7 kf_RJ0_15 hi ?_
  refine X_goto dJ0_coder_7d493_10 (tgt := 14) rfl ?_
  exact X_ret (z := 0) dJ0_coder_7d493_14 rfl (fun _ => ⟨h.1, h.2.1⟩) h.2.2
theorem qJ0_coder_7d493 {l : Launch} {G : GT} {Q : Int → Sh → Mem → Prop} {d : Nat} {S : Sh} {V : Mem} {mc ms : Nat} {i : Nat} (hi : i < 16) (h : XJ l G bJ0_coder_7d493 Q d 0 [vr ((G.2.2.2.1 i : Int) + 1)] [] S V mc ms) : Ct l G bJ0_coder_7d493 Q d mc ms [vr ((G.2.2.2.1 i : Int) + 1)] S V := Ct.of okJ0_coder_7d493.1 trivial (Nat.le_of_ble_eq_true rfl) (fun hv => h )
set_option maxRecDepth 10000 in
theorem vJ0_isLatin1_aae02_0 {l : Launch} {G : GT} {Q : Int → Sh → Mem → Prop} {d : Nat} {S : Sh} {V : Mem} {mc ms : Nat} {i : Nat} (hi : i < 16) (h : Q 1 S V) : XJ l G bJ0_isLatin1_aae02 Q d 0 [vr ((G.2.2.2.1 i : Int) + 1)] [] S V mc ms := by
  refine X_compact dJ0_isLatin1_aae02_0 kf_RJ0_38 ?_
  refine X_if_eq dJ0_isLatin1_aae02_3 (tgt := 17) rfl (fun c => absurd c (by decide)) (fun _ => ?_)
  refine X_aload_n dJ0_isLatin1_aae02_6 rfl ?_
  refine X_scoder (i := i) dJ0_isLatin1_aae02_7 kf_RJ0_15 hi ?_
  refine X_if_ne dJ0_isLatin1_aae02_10 (tgt := 17) rfl (fun c => absurd c (by decide)) (fun _ => ?_)
  refine X_iconst dJ0_isLatin1_aae02_13 (by decide) ?_
  refine X_goto dJ0_isLatin1_aae02_14 (tgt := 18) rfl ?_
  exact X_ret (z := 1) dJ0_isLatin1_aae02_18 rfl (fun _ => Or.inr rfl) h
theorem qJ0_isLatin1_aae02 {l : Launch} {G : GT} {Q : Int → Sh → Mem → Prop} {d : Nat} {S : Sh} {V : Mem} {mc ms : Nat} {i : Nat} (hi : i < 16) (h : XJ l G bJ0_isLatin1_aae02 Q d 0 [vr ((G.2.2.2.1 i : Int) + 1)] [] S V mc ms) : Ct l G bJ0_isLatin1_aae02 Q d mc ms [vr ((G.2.2.2.1 i : Int) + 1)] S V := Ct.of okJ0_isLatin1_aae02.1 trivial (Nat.le_of_ble_eq_true rfl) (fun hv => h )
set_option maxRecDepth 10000 in
theorem vJ0_checkIndex_df160_0 {l : Launch} {G : GT} {Q : Int → Sh → Mem → Prop} {d : Nat} {S : Sh} {V : Mem} {mc ms : Nat} {x0 x1 : Int} (h : (∀ r1 : Int, 0 ≤ r1 → CT l G bJ3_checkIndex_8e157 d mc ms [vi x0, vi x1, vr r1] S V (fun z2 S2 V2 mc2 ms2 => Q 0 S2 V2))) : XJ l G bJ0_checkIndex_df160 Q d 0 [vi x0, vi x1] [] S V mc ms := by
  refine X_iload_n dJ0_checkIndex_df160_0 rfl ?_
  refine X_iload_n dJ0_checkIndex_df160_1 rfl ?_
  refine X_fmt dJ0_checkIndex_df160_2 kf_RJ0_1053 (fun r1 hr1 => ?_)
  refine X_invS (as := [vi x0, vi x1, vr r1]) (st := []) okJ3_checkIndex_8e157 dJ0_checkIndex_df160_5 km_RJ0_1059 rfl rfl (Nat.le_of_ble_eq_true rfl) (CT.imp (h r1 hr1) (fun z2 S2 V2 mc2 ms2 hc3 => ?_))
  refine X_pop dJ0_checkIndex_df160_8 rfl ?_
  exact X_ret (z := 0) dJ0_checkIndex_df160_9 rfl (fun _ => trivial) hc3
theorem qJ0_checkIndex_df160 {l : Launch} {G : GT} {Q : Int → Sh → Mem → Prop} {d : Nat} {S : Sh} {V : Mem} {mc ms : Nat} {x0 x1 : Int} (h : inI x0 → inI x1 → XJ l G bJ0_checkIndex_df160 Q d 0 [vi x0, vi x1] [] S V mc ms) : Ct l G bJ0_checkIndex_df160 Q d mc ms [vi x0, vi x1] S V := Ct.of okJ0_checkIndex_df160.1 trivial (Nat.le_of_ble_eq_true rfl) (fun hv => h (hv _ (List.mem_of_getElem? (i := 0) rfl)) (hv _ (List.mem_of_getElem? (i := 1) rfl)))
set_option maxRecDepth 10000 in
theorem vJ1_charAt_3b067_0 {l : Launch} {G : GT} {Q : Int → Sh → Mem → Prop} {d : Nat} {S : Sh} {V : Mem} {mc ms : Nat} {i : Nat} (hi : i < 16) {x1 : Int} (h : CT l G bJ0_checkIndex_df160 d mc ms [vi x1, vi (js_len.getD i 0 : Nat)] S V (fun z1 S1 V1 mc1 ms1 => 0 ≤ x1 ∧ x1 < (js_len.getD i 0 : Nat) ∧ 0 ≤ (wc (bAnd (js_b i (x1).toNat) 255)) ∧ (wc (bAnd (js_b i (x1).toNat) 255)) ≤ 65535 ∧ Q (wc (bAnd (js_b i (x1).toNat) 255)) S1 V1)) : XJ l G bJ1_charAt_3b067 Q d 0 [vr ((G.2.2.2.2.1 i : Int) + 1), vi x1] [] S V mc ms := by
  refine X_iload_n dJ1_charAt_3b067_0 rfl ?_
  refine X_aload_n dJ1_charAt_3b067_1 rfl ?_
  refine X_slen (i := i) dJ1_charAt_3b067_2 hi ?_
  refine X_invS (as := [vi x1, vi (js_len.getD i 0 : Nat)]) (st := []) okJ0_checkIndex_df160 dJ1_charAt_3b067_3 km_RJ1_9 rfl rfl (Nat.le_of_ble_eq_true rfl) (CT.imp h (fun z1 S1 V1 mc1 ms1 hc2 => ?_))
  refine X_aload_n dJ1_charAt_3b067_6 rfl ?_
  refine X_iload_n dJ1_charAt_3b067_7 rfl ?_
  refine X_sbyte (i := i) dJ1_charAt_3b067_8 hi hc2.1 hc2.2.1 ?_
  refine X_sipush dJ1_charAt_3b067_9 (by decide) (by decide) ?_
  refine X_iand dJ1_charAt_3b067_12 ?_
  refine X_i2c dJ1_charAt_3b067_13 ?_
  exact X_ret (z := (wc (bAnd (js_b i (x1).toNat) 255))) dJ1_charAt_3b067_14 rfl (fun _ => ⟨hc2.2.2.1, hc2.2.2.2.1⟩) hc2.2.2.2.2
theorem qJ1_charAt_3b067 {l : Launch} {G : GT} {Q : Int → Sh → Mem → Prop} {d : Nat} {S : Sh} {V : Mem} {mc ms : Nat} {i : Nat} (hi : i < 16) {x1 : Int} (h : inI x1 → XJ l G bJ1_charAt_3b067 Q d 0 [vr ((G.2.2.2.2.1 i : Int) + 1), vi x1] [] S V mc ms) : Ct l G bJ1_charAt_3b067 Q d mc ms [vr ((G.2.2.2.2.1 i : Int) + 1), vi x1] S V := Ct.of okJ1_charAt_3b067.1 trivial (Nat.le_of_ble_eq_true rfl) (fun hv => h (hv _ (List.mem_of_getElem? (i := 1) rfl)))
set_option maxRecDepth 10000 in
theorem vJ1_canEncode_9a6ad_0 {l : Launch} {G : GT} {Q : Int → Sh → Mem → Prop} {d : Nat} {S : Sh} {V : Mem} {mc ms : Nat} {x0 : Int} (h : (x0 < 0 → Q 0 S V) ∧ (¬ (x0 < 0) → (255 < x0 → Q 0 S V) ∧ (¬ (255 < x0) → Q 1 S V))) : XJ l G bJ1_canEncode_9a6ad Q d 0 [vi x0] [] S V mc ms := by
  refine X_iload_n dJ1_canEncode_9a6ad_0 rfl ?_
  refine X_if_lt dJ1_canEncode_9a6ad_1 (tgt := 15) rfl (fun c1 => ?_) (fun c1 => ?_)
  · refine X_iconst dJ1_canEncode_9a6ad_15 (by decide) ?_
    exact X_ret (z := 0) dJ1_canEncode_9a6ad_16 rfl (fun _ => Or.inl rfl) (h.1 c1)
  · refine X_iload_n dJ1_canEncode_9a6ad_4 rfl ?_
    refine X_sipush dJ1_canEncode_9a6ad_5 (by decide) (by decide) ?_
    refine X_icmp_gt dJ1_canEncode_9a6ad_8 (tgt := 15) rfl (fun c2 => ?_) (fun c2 => ?_)
    · refine X_iconst dJ1_canEncode_9a6ad_15 (by decide) ?_
      exact X_ret (z := 0) dJ1_canEncode_9a6ad_16 rfl (fun _ => Or.inl rfl) ((h.2 c1).1 c2)
    · refine X_iconst dJ1_canEncode_9a6ad_11 (by decide) ?_
      refine X_goto dJ1_canEncode_9a6ad_12 (tgt := 16) rfl ?_
      exact X_ret (z := 1) dJ1_canEncode_9a6ad_16 rfl (fun _ => Or.inr rfl) ((h.2 c1).2 c2)
theorem qJ1_canEncode_9a6ad {l : Launch} {G : GT} {Q : Int → Sh → Mem → Prop} {d : Nat} {S : Sh} {V : Mem} {mc ms : Nat} {x0 : Int} (h : inI x0 → XJ l G bJ1_canEncode_9a6ad Q d 0 [vi x0] [] S V mc ms) : Ct l G bJ1_canEncode_9a6ad Q d mc ms [vi x0] S V := Ct.of okJ1_canEncode_9a6ad.1 trivial (Nat.le_of_ble_eq_true rfl) (fun hv => h (hv _ (List.mem_of_getElem? (i := 0) rfl)))
set_option maxRecDepth 10000 in
theorem vJ1_indexOf_4cfef_0 {l : Launch} {G : GT} {Q : Int → Sh → Mem → Prop} {d : Nat} {S : Sh} {V : Mem} {mc ms : Nat} {i : Nat} (hi : i < 16) {x1 x2 x3 : Int} (h : CT l G bJ1_canEncode_9a6ad d mc ms [vi x1] S V (fun z1 S1 V1 mc1 ms1 => (z1 ≠ 0 → 1 ≤ d ∧ ((imax x2 0) < (imin x3 (js_len.getD i 0 : Nat)) → CT l G bJ1_indexOfChar_4cfef d mc1 ms1 [vr ((G.2.2.2.2.1 i : Int) + 1), vi x1, vi (imax x2 0), vi (imin x3 (js_len.getD i 0 : Nat))] S1 V1 (fun z5 S5 V5 mc5 ms5 => Q z5 S5 V5)) ∧ (¬ ((imax x2 0) < (imin x3 (js_len.getD i 0 : Nat))) → Q (-1) S1 V1)) ∧ (¬ (z1 ≠ 0) → Q (-1) S1 V1))) : XJ l G bJ1_indexOf_4cfef Q d 0 [vr ((G.2.2.2.2.1 i : Int) + 1), vi x1, vi x2, vi x3] [] S V mc ms := by
  refine X_iload_n dJ1_indexOf_4cfef_0 rfl ?_
  refine X_invS (as := [vi x1]) (st := []) okJ1_canEncode_9a6ad dJ1_indexOf_4cfef_1 km_RJ1_88 rfl rfl (Nat.le_of_ble_eq_true rfl) (CT.imp h (fun z1 S1 V1 mc1 ms1 hc2 => ?_))
  refine X_if_ne dJ1_indexOf_4cfef_4 (tgt := 9) rfl (fun c3 => ?_) (fun c3 => ?_)
  · refine X_iload_n dJ1_indexOf_4cfef_9 rfl ?_
    refine X_iconst dJ1_indexOf_4cfef_10 (by decide) ?_
    refine X_mmax dJ1_indexOf_4cfef_11 km_RJ1_92 (Nat.le_of_ble_eq_true rfl) (hc2.1 c3).1 ?_
    refine X_istore_n dJ1_indexOf_4cfef_14 (by decide) rfl ?_
    refine X_iload_n dJ1_indexOf_4cfef_15 rfl ?_
    refine X_aload_n dJ1_indexOf_4cfef_16 rfl ?_
    refine X_slen (i := i) dJ1_indexOf_4cfef_17 hi ?_
    refine X_mmin dJ1_indexOf_4cfef_18 km_RJ1_38 (Nat.le_of_ble_eq_true rfl) (hc2.1 c3).1 ?_
    refine X_istore_n dJ1_indexOf_4cfef_21 (by decide) rfl ?_
    refine X_iload_n dJ1_indexOf_4cfef_22 rfl ?_
    refine X_iload_n dJ1_indexOf_4cfef_23 rfl ?_
    refine X_icmp_lt dJ1_indexOf_4cfef_24 (tgt := 29) rfl (fun c4 => ?_) (fun c4 => ?_)
    · refine X_aload_n dJ1_indexOf_4cfef_29 rfl ?_
      refine X_iload_n dJ1_indexOf_4cfef_30 rfl ?_
      refine X_iload_n dJ1_indexOf_4cfef_31 rfl ?_
      refine X_iload_n dJ1_indexOf_4cfef_32 rfl ?_
      refine X_invS (as := [vr ((G.2.2.2.2.1 i : Int) + 1), vi x1, vi (imax x2 0), vi (imin x3 (js_len.getD i 0 : Nat))]) (st := []) okJ1_indexOfChar_4cfef dJ1_indexOf_4cfef_33 km_RJ1_95 rfl rfl (Nat.le_of_ble_eq_true rfl) (CT.imp ((hc2.1 c3).2.1 c4) (fun z5 S5 V5 mc5 ms5 hc6 => ?_))
      exact X_ret (z := z5) dJ1_indexOf_4cfef_36 rfl (fun hv => vok_h hv) hc6
    · refine X_iconst dJ1_indexOf_4cfef_27 (by decide) ?_
      exact X_ret (z := (-1)) dJ1_indexOf_4cfef_28 rfl (fun hv => vok_h hv) ((hc2.1 c3).2.2 c4)
  · refine X_iconst dJ1_indexOf_4cfef_7 (by decide) ?_
    exact X_ret (z := (-1)) dJ1_indexOf_4cfef_8 rfl (fun hv => vok_h hv) (hc2.2 c3)
theorem qJ1_indexOf_4cfef {l : Launch} {G : GT} {Q : Int → Sh → Mem → Prop} {d : Nat} {S : Sh} {V : Mem} {mc ms : Nat} {i : Nat} (hi : i < 16) {x1 x2 x3 : Int} (h : inI x1 → inI x2 → inI x3 → XJ l G bJ1_indexOf_4cfef Q d 0 [vr ((G.2.2.2.2.1 i : Int) + 1), vi x1, vi x2, vi x3] [] S V mc ms) : Ct l G bJ1_indexOf_4cfef Q d mc ms [vr ((G.2.2.2.2.1 i : Int) + 1), vi x1, vi x2, vi x3] S V := Ct.of okJ1_indexOf_4cfef.1 trivial (Nat.le_of_ble_eq_true rfl) (fun hv => h (hv _ (List.mem_of_getElem? (i := 1) rfl)) (hv _ (List.mem_of_getElem? (i := 2) rfl)) (hv _ (List.mem_of_getElem? (i := 3) rfl)))
set_option maxRecDepth 10000 in
theorem vJ1_indexOfChar_4cfef_0 {l : Launch} {G : GT} {Q : Int → Sh → Mem → Prop} {d : Nat} {S : Sh} {V : Mem} {mc ms : Nat} {i : Nat} (hi : i < 16) {x1 x2 x3 : Int} (h : XJ l G bJ1_indexOfChar_4cfef Q d 7 [vr ((G.2.2.2.2.1 i : Int) + 1), vi x1, vi x2, vi x3, vi (wb x1), vi x2] [] S V mc ms) : XJ l G bJ1_indexOfChar_4cfef Q d 0 [vr ((G.2.2.2.2.1 i : Int) + 1), vi x1, vi x2, vi x3, vu, vu] [] S V mc ms := by
  refine X_iload_n dJ1_indexOfChar_4cfef_0 rfl ?_
  refine X_i2b dJ1_indexOfChar_4cfef_1 ?_
  refine X_istore dJ1_indexOfChar_4cfef_2 (by decide) rfl ?_
  refine X_iload_n dJ1_indexOfChar_4cfef_4 rfl ?_
  refine X_istore dJ1_indexOfChar_4cfef_5 (by decide) rfl ?_
  exact h
set_option maxRecDepth 10000 in
theorem vJ1_indexOfChar_4cfef_7 {l : Launch} {G : GT} {Q : Int → Sh → Mem → Prop} {d : Nat} {S : Sh} {V : Mem} {mc ms : Nat} {i : Nat} (hi : i < 16) {x1 x2 x3 x4 x5 : Int} (h : (x3 ≤ x5 → Q (-1) S V) ∧ (¬ (x3 ≤ x5) → 0 ≤ x5 ∧ x5 < (js_len.getD i 0 : Nat) ∧ ((js_b i (x5).toNat) ≠ x4 → -2147483648 ≤ x5 + 1 ∧ x5 + 1 ≤ 2147483647 ∧ XJ l G bJ1_indexOfChar_4cfef Q d 7 [vr ((G.2.2.2.2.1 i : Int) + 1), vi x1, vi x2, vi x3, vi x4, vi (x5 + 1)] [] S V mc ms) ∧ (¬ ((js_b i (x5).toNat) ≠ x4) → Q x5 S V))) : XJ l G bJ1_indexOfChar_4cfef Q d 7 [vr ((G.2.2.2.2.1 i : Int) + 1), vi x1, vi x2, vi x3, vi x4, vi x5] [] S V mc ms := by
  refine X_iload dJ1_indexOfChar_4cfef_7 rfl ?_
  refine X_iload_n dJ1_indexOfChar_4cfef_9 rfl ?_
  refine X_icmp_ge dJ1_indexOfChar_4cfef_10 (tgt := 31) rfl (fun c1 => ?_) (fun c1 => ?_)
  · refine X_iconst dJ1_indexOfChar_4cfef_31 (by decide) ?_
    exact X_ret (z := (-1)) dJ1_indexOfChar_4cfef_32 rfl (fun hv => vok_h hv) (h.1 c1)
  · refine X_aload_n dJ1_indexOfChar_4cfef_13 rfl ?_
    refine X_iload dJ1_indexOfChar_4cfef_14 rfl ?_
    refine X_sbyte (i := i) dJ1_indexOfChar_4cfef_16 hi (h.2 c1).1 (h.2 c1).2.1 ?_
    refine X_iload dJ1_indexOfChar_4cfef_17 rfl ?_
    refine X_icmp_ne dJ1_indexOfChar_4cfef_19 (tgt := 25) rfl (fun c2 => ?_) (fun c2 => ?_)
    · refine X_iincN dJ1_indexOfChar_4cfef_25 rfl (by decide) rfl (e := x5 + 1) rfl ((h.2 c1).2.2.1 c2).1 ((h.2 c1).2.2.1 c2).2.1 ?_
      refine X_goto dJ1_indexOfChar_4cfef_28 (tgt := 7) rfl ?_
      exact ((h.2 c1).2.2.1 c2).2.2
    · refine X_iload dJ1_indexOfChar_4cfef_22 rfl ?_
      exact X_ret (z := x5) dJ1_indexOfChar_4cfef_24 rfl (fun hv => vok_h hv) ((h.2 c1).2.2.2 c2)
theorem qJ1_indexOfChar_4cfef {l : Launch} {G : GT} {Q : Int → Sh → Mem → Prop} {d : Nat} {S : Sh} {V : Mem} {mc ms : Nat} {i : Nat} (hi : i < 16) {x1 x2 x3 : Int} (h : inI x1 → inI x2 → inI x3 → XJ l G bJ1_indexOfChar_4cfef Q d 0 [vr ((G.2.2.2.2.1 i : Int) + 1), vi x1, vi x2, vi x3, vu, vu] [] S V mc ms) : Ct l G bJ1_indexOfChar_4cfef Q d mc ms [vr ((G.2.2.2.2.1 i : Int) + 1), vi x1, vi x2, vi x3] S V := Ct.of okJ1_indexOfChar_4cfef.1 trivial (Nat.le_of_ble_eq_true rfl) (fun hv => h (hv _ (List.mem_of_getElem? (i := 1) rfl)) (hv _ (List.mem_of_getElem? (i := 2) rfl)) (hv _ (List.mem_of_getElem? (i := 3) rfl)))
set_option maxRecDepth 10000 in
theorem vJ3_checkIndex_8e157_0 {l : Launch} {G : GT} {Q : Int → Sh → Mem → Prop} {d : Nat} {S : Sh} {V : Mem} {mc ms : Nat} {x0 x1 x2 : Int} (h : (x0 < 0 → False) ∧ (¬ (x0 < 0) → (x0 < x1 → Q x0 S V) ∧ (¬ (x0 < x1) → False))) : XJ l G bJ3_checkIndex_8e157 Q d 0 [vi x0, vi x1, vr x2] [] S V mc ms := by
  refine X_iload_n dJ3_checkIndex_8e157_0 rfl ?_
  refine X_if_lt dJ3_checkIndex_8e157_1 (tgt := 9) rfl (fun c1 => ?_) (fun c1 => ?_)
  · refine X_aload_n dJ3_checkIndex_8e157_9 rfl ?_
    refine X_iload_n dJ3_checkIndex_8e157_10 rfl ?_
    refine X_iload_n dJ3_checkIndex_8e157_11 rfl ?_
    exact ((h.1 c1)).elim
  · refine X_iload_n dJ3_checkIndex_8e157_4 rfl ?_
    refine X_iload_n dJ3_checkIndex_8e157_5 rfl ?_
    refine X_icmp_lt dJ3_checkIndex_8e157_6 (tgt := 16) rfl (fun c2 => ?_) (fun c2 => ?_)
    · refine X_iload_n dJ3_checkIndex_8e157_16 rfl ?_
      exact X_ret (z := x0) dJ3_checkIndex_8e157_17 rfl (fun hv => vok_h hv) ((h.2 c1).1 c2)
    · refine X_aload_n dJ3_checkIndex_8e157_9 rfl ?_
      refine X_iload_n dJ3_checkIndex_8e157_10 rfl ?_
      refine X_iload_n dJ3_checkIndex_8e157_11 rfl ?_
      exact (((h.2 c1).2 c2)).elim
theorem qJ3_checkIndex_8e157 {l : Launch} {G : GT} {Q : Int → Sh → Mem → Prop} {d : Nat} {S : Sh} {V : Mem} {mc ms : Nat} {x0 x1 x2 : Int} (h : inI x0 → inI x1 → 0 ≤ x2 → XJ l G bJ3_checkIndex_8e157 Q d 0 [vi x0, vi x1, vr x2] [] S V mc ms) : Ct l G bJ3_checkIndex_8e157 Q d mc ms [vi x0, vi x1, vr x2] S V := Ct.of okJ3_checkIndex_8e157.1 trivial (Nat.le_of_ble_eq_true rfl) (fun hv => h (hv _ (List.mem_of_getElem? (i := 0) rfl)) (hv _ (List.mem_of_getElem? (i := 1) rfl)) (hv _ (List.mem_of_getElem? (i := 2) rfl)))
set_option maxRecDepth 10000 in
theorem vJ6_bitCount_0f7a4_0 {l : Launch} {G : GT} {Q : Int → Sh → Mem → Prop} {d : Nat} {S : Sh} {V : Mem} {mc ms : Nat} {x0 : Int} (h : Q (bAnd (wr ((wr ((bAnd (wr ((wr ((bAnd (wr (x0 - (bAnd (bUshr x0 1) 1431655765))) 858993459) + (bAnd (bUshr (wr (x0 - (bAnd (bUshr x0 1) 1431655765))) 2) 858993459))) + (bUshr (wr ((bAnd (wr (x0 - (bAnd (bUshr x0 1) 1431655765))) 858993459) + (bAnd (bUshr (wr (x0 - (bAnd (bUshr x0 1) 1431655765))) 2) 858993459))) 4))) 252645135) + (bUshr (bAnd (wr ((wr ((bAnd (wr (x0 - (bAnd (bUshr x0 1) 1431655765))) 858993459) + (bAnd (bUshr (wr (x0 - (bAnd (bUshr x0 1) 1431655765))) 2) 858993459))) + (bUshr (wr ((bAnd (wr (x0 - (bAnd (bUshr x0 1) 1431655765))) 858993459) + (bAnd (bUshr (wr (x0 - (bAnd (bUshr x0 1) 1431655765))) 2) 858993459))) 4))) 252645135) 8))) + (bUshr (wr ((bAnd (wr ((wr ((bAnd (wr (x0 - (bAnd (bUshr x0 1) 1431655765))) 858993459) + (bAnd (bUshr (wr (x0 - (bAnd (bUshr x0 1) 1431655765))) 2) 858993459))) + (bUshr (wr ((bAnd (wr (x0 - (bAnd (bUshr x0 1) 1431655765))) 858993459) + (bAnd (bUshr (wr (x0 - (bAnd (bUshr x0 1) 1431655765))) 2) 858993459))) 4))) 252645135) + (bUshr (bAnd (wr ((wr ((bAnd (wr (x0 - (bAnd (bUshr x0 1) 1431655765))) 858993459) + (bAnd (bUshr (wr (x0 - (bAnd (bUshr x0 1) 1431655765))) 2) 858993459))) + (bUshr (wr ((bAnd (wr (x0 - (bAnd (bUshr x0 1) 1431655765))) 858993459) + (bAnd (bUshr (wr (x0 - (bAnd (bUshr x0 1) 1431655765))) 2) 858993459))) 4))) 252645135) 8))) 16))) 63) S V) : XJ l G bJ6_bitCount_0f7a4 Q d 0 [vi x0] [] S V mc ms := by
  refine X_iload_n dJ6_bitCount_0f7a4_0 rfl ?_
  refine X_iload_n dJ6_bitCount_0f7a4_1 rfl ?_
  refine X_iconst dJ6_bitCount_0f7a4_2 (by decide) ?_
  refine X_iushr dJ6_bitCount_0f7a4_3 ?_
  refine X_ldcw dJ6_bitCount_0f7a4_4 kk_RJ6_265 (by decide) ?_
  refine X_iand dJ6_bitCount_0f7a4_7 ?_
  refine X_isub dJ6_bitCount_0f7a4_8 ?_
  refine X_istore_n dJ6_bitCount_0f7a4_9 (by decide) rfl ?_
  refine X_iload_n dJ6_bitCount_0f7a4_10 rfl ?_
  refine X_ldcw dJ6_bitCount_0f7a4_11 kk_RJ6_266 (by decide) ?_
  refine X_iand dJ6_bitCount_0f7a4_14 ?_
  refine X_iload_n dJ6_bitCount_0f7a4_15 rfl ?_
  refine X_iconst dJ6_bitCount_0f7a4_16 (by decide) ?_
  refine X_iushr dJ6_bitCount_0f7a4_17 ?_
  refine X_ldcw dJ6_bitCount_0f7a4_18 kk_RJ6_266 (by decide) ?_
  refine X_iand dJ6_bitCount_0f7a4_21 ?_
  refine X_iadd dJ6_bitCount_0f7a4_22 ?_
  refine X_istore_n dJ6_bitCount_0f7a4_23 (by decide) rfl ?_
  refine X_iload_n dJ6_bitCount_0f7a4_24 rfl ?_
  refine X_iload_n dJ6_bitCount_0f7a4_25 rfl ?_
  refine X_iconst dJ6_bitCount_0f7a4_26 (by decide) ?_
  refine X_iushr dJ6_bitCount_0f7a4_27 ?_
  refine X_iadd dJ6_bitCount_0f7a4_28 ?_
  refine X_ldcw dJ6_bitCount_0f7a4_29 kk_RJ6_267 (by decide) ?_
  refine X_iand dJ6_bitCount_0f7a4_32 ?_
  refine X_istore_n dJ6_bitCount_0f7a4_33 (by decide) rfl ?_
  refine X_iload_n dJ6_bitCount_0f7a4_34 rfl ?_
  refine X_iload_n dJ6_bitCount_0f7a4_35 rfl ?_
  refine X_bipush dJ6_bitCount_0f7a4_36 (by decide) (by decide) ?_
  refine X_iushr dJ6_bitCount_0f7a4_38 ?_
  refine X_iadd dJ6_bitCount_0f7a4_39 ?_
  refine X_istore_n dJ6_bitCount_0f7a4_40 (by decide) rfl ?_
  refine X_iload_n dJ6_bitCount_0f7a4_41 rfl ?_
  refine X_iload_n dJ6_bitCount_0f7a4_42 rfl ?_
  refine X_bipush dJ6_bitCount_0f7a4_43 (by decide) (by decide) ?_
  refine X_iushr dJ6_bitCount_0f7a4_45 ?_
  refine X_iadd dJ6_bitCount_0f7a4_46 ?_
  refine X_istore_n dJ6_bitCount_0f7a4_47 (by decide) rfl ?_
  refine X_iload_n dJ6_bitCount_0f7a4_48 rfl ?_
  refine X_bipush dJ6_bitCount_0f7a4_49 (by decide) (by decide) ?_
  refine X_iand dJ6_bitCount_0f7a4_51 ?_
  exact X_ret (z := (bAnd (wr ((wr ((bAnd (wr ((wr ((bAnd (wr (x0 - (bAnd (bUshr x0 1) 1431655765))) 858993459) + (bAnd (bUshr (wr (x0 - (bAnd (bUshr x0 1) 1431655765))) 2) 858993459))) + (bUshr (wr ((bAnd (wr (x0 - (bAnd (bUshr x0 1) 1431655765))) 858993459) + (bAnd (bUshr (wr (x0 - (bAnd (bUshr x0 1) 1431655765))) 2) 858993459))) 4))) 252645135) + (bUshr (bAnd (wr ((wr ((bAnd (wr (x0 - (bAnd (bUshr x0 1) 1431655765))) 858993459) + (bAnd (bUshr (wr (x0 - (bAnd (bUshr x0 1) 1431655765))) 2) 858993459))) + (bUshr (wr ((bAnd (wr (x0 - (bAnd (bUshr x0 1) 1431655765))) 858993459) + (bAnd (bUshr (wr (x0 - (bAnd (bUshr x0 1) 1431655765))) 2) 858993459))) 4))) 252645135) 8))) + (bUshr (wr ((bAnd (wr ((wr ((bAnd (wr (x0 - (bAnd (bUshr x0 1) 1431655765))) 858993459) + (bAnd (bUshr (wr (x0 - (bAnd (bUshr x0 1) 1431655765))) 2) 858993459))) + (bUshr (wr ((bAnd (wr (x0 - (bAnd (bUshr x0 1) 1431655765))) 858993459) + (bAnd (bUshr (wr (x0 - (bAnd (bUshr x0 1) 1431655765))) 2) 858993459))) 4))) 252645135) + (bUshr (bAnd (wr ((wr ((bAnd (wr (x0 - (bAnd (bUshr x0 1) 1431655765))) 858993459) + (bAnd (bUshr (wr (x0 - (bAnd (bUshr x0 1) 1431655765))) 2) 858993459))) + (bUshr (wr ((bAnd (wr (x0 - (bAnd (bUshr x0 1) 1431655765))) 858993459) + (bAnd (bUshr (wr (x0 - (bAnd (bUshr x0 1) 1431655765))) 2) 858993459))) 4))) 252645135) 8))) 16))) 63)) dJ6_bitCount_0f7a4_52 rfl (fun hv => vok_h hv) h
theorem qJ6_bitCount_0f7a4 {l : Launch} {G : GT} {Q : Int → Sh → Mem → Prop} {d : Nat} {S : Sh} {V : Mem} {mc ms : Nat} {x0 : Int} (h : inI x0 → XJ l G bJ6_bitCount_0f7a4 Q d 0 [vi x0] [] S V mc ms) : Ct l G bJ6_bitCount_0f7a4 Q d mc ms [vi x0] S V := Ct.of okJ6_bitCount_0f7a4.1 trivial (Nat.le_of_ble_eq_true rfl) (fun hv => h (hv _ (List.mem_of_getElem? (i := 0) rfl)))
set_option maxRecDepth 10000 in
theorem vJ7_fill_53178_0 {l : Launch} {G : GT} {Q : Int → Sh → Mem → Prop} {d : Nat} {S : Sh} {V : Mem} {mc ms : Nat} {x0 x1 : Int} (h : S.1 x0 = 20 ∧ XJ l G bJ7_fill_53178 Q d 5 [vr x0, vi x1, vi 0, vi (S.2.1 x0)] [] S V mc ms) : XJ l G bJ7_fill_53178 Q d 0 [vr x0, vi x1, vu, vu] [] S V mc ms := by
  refine X_iconst dJ7_fill_53178_0 (by decide) ?_
  refine X_istore_n dJ7_fill_53178_1 (by decide) rfl ?_
  refine X_aload_n dJ7_fill_53178_2 rfl ?_
  refine X_alen (t := 20) (by decide) dJ7_fill_53178_3 h.1 ?_
  refine X_istore_n dJ7_fill_53178_4 (by decide) rfl ?_
  exact h.2
set_option maxRecDepth 10000 in
theorem vJ7_fill_53178_5 {l : Launch} {G : GT} {Q : Int → Sh → Mem → Prop} {d : Nat} {S : Sh} {V : Mem} {mc ms : Nat} {x0 x1 x2 x3 : Int} (h : (x3 ≤ x2 → Q 0 S V) ∧ (¬ (x3 ≤ x2) → S.1 x0 = 20 ∧ 0 ≤ x2 ∧ x2 < S.2.1 x0 ∧ -2147483648 ≤ x2 + 1 ∧ x2 + 1 ≤ 2147483647 ∧ XJ l G bJ7_fill_53178 Q d 5 [vr x0, vi x1, vi (x2 + 1), vi x3] [] S (up V x0 x2 x1) mc ms)) : XJ l G bJ7_fill_53178 Q d 5 [vr x0, vi x1, vi x2, vi x3] [] S V mc ms := by
  refine X_iload_n dJ7_fill_53178_5 rfl ?_
  refine X_iload_n dJ7_fill_53178_6 rfl ?_
  refine X_icmp_ge dJ7_fill_53178_7 (tgt := 20) rfl (fun c1 => ?_) (fun c1 => ?_)
  · exact X_ret (z := 0) dJ7_fill_53178_20 rfl (fun _ => trivial) (h.1 c1)
  · refine X_aload_n dJ7_fill_53178_10 rfl ?_
    refine X_iload_n dJ7_fill_53178_11 rfl ?_
    refine X_iload_n dJ7_fill_53178_12 rfl ?_
    refine X_iastore dJ7_fill_53178_13 (h.2 c1).1 (h.2 c1).2.1 (h.2 c1).2.2.1 ?_
    refine X_iincN dJ7_fill_53178_14 rfl (by decide) rfl (e := x2 + 1) rfl (h.2 c1).2.2.2.1 (h.2 c1).2.2.2.2.1 ?_
    refine X_goto dJ7_fill_53178_17 (tgt := 5) rfl ?_
    exact (h.2 c1).2.2.2.2.2
theorem qJ7_fill_53178 {l : Launch} {G : GT} {Q : Int → Sh → Mem → Prop} {d : Nat} {S : Sh} {V : Mem} {mc ms : Nat} {x0 x1 : Int} (h : 0 ≤ x0 → inI x1 → XJ l G bJ7_fill_53178 Q d 0 [vr x0, vi x1, vu, vu] [] S V mc ms) : Ct l G bJ7_fill_53178 Q d mc ms [vr x0, vi x1] S V := Ct.of okJ7_fill_53178.1 trivial (Nat.le_of_ble_eq_true rfl) (fun hv => h (hv _ (List.mem_of_getElem? (i := 0) rfl)) (hv _ (List.mem_of_getElem? (i := 1) rfl)))
