/-! ===== entry, holder ===== -/
theorem call_entry (b e t k : Int) : CallOK CI bX11_entry n_entry_0 [vi b, vi e, vi t, vi k] [b, e, t, k] := call_upd fun l G c S V M Q hc hR hk => qX11_entry fun _ _ _ _ _ => vX11_entry_0 <| by
  have tp := hR.top
  have n1 := tp.nb1
  have tl := tp.tl0
  have he12 : ∀ b, 0 ≤ b → b < M 0 8 → M 10 b ≤ 12 := fun b b0 b1 => (hR.bk b0 b1).bk.ne1
  have no : ¬ (0 ≤ b ∧ b < M 0 8 ∧ 0 ≤ e ∧ e < M 10 b ∧ 0 ≤ t ∧ t < M 15 (12 * b + e) ∧ 0 ≤ k ∧ k < M 24 (4 * (12 * b + e) + t)) → Q (-1) S V := fun h => hk (-1) V M (fun Q hq => st_entry_0 (pm_isEnum n1 (fun a1 a2 a3 a4 => ⟨fun z => absurd z (by decide), fun _ => ⟨fun _ => hq, fun y1 => by
      have q1 := he12 b a1 a2
      have q2 := ((hR.bk a1 a2).be a3 a4).en.nt1
      exact ⟨by omega, by omega, by omega, by omega, by omega, by omega, fun y2 => ⟨by omega, by omega, by omega, by omega, fun _ => hq, fun y3 => ⟨by omega, by omega, fun y4 => absurd ⟨a1, a2, a3, a4, by omega, y2, by omega, y4⟩ h, fun _ => hq⟩⟩, fun _ => hq⟩⟩⟩) (fun _ => ⟨fun _ => hq, fun z => absurd rfl z⟩))) (fun _ _ _ => rfl) hR (by omega)
  refine ⟨tp.vg60, CT.pu (by decide) (fun d1 hd1 => ct_enumOf hc hR (by omega) (fun b0 b1 e0 e1 => ⟨rfl, rfl, fun _ => ⟨((hR.bk b0 b1).be e0 e1).en.vg3, CT.pu (by decide) (fun d2 hd2 => ct_tableAt ((hR.bk b0 b1).be e0 e1) rfl (fun t0 t1 => ⟨rfl, rfl, fun z => absurd z (hc.2 _).1, fun _ => ⟨fun _ => no (by omega), fun k0 => ?_⟩⟩) (fun h => ⟨rfl, rfl, fun _ => no (by omega), fun z => absurd rfl z⟩))⟩, fun z => absurd (hc.2 _).1 z⟩) (fun h => ⟨rfl, rfl, fun z => absurd rfl z, fun _ => no (by omega)⟩))⟩
  have ne1 := (hR.bk b0 b1).bk.ne1
  have hE := (hR.bk b0 b1).be e0 e1
  have nt1 := hE.en.nt1
  have ht := hE.tb t0 t1
  have n12 := ht.ne1
  rw [ht.vne]
  refine ⟨ht.vg9, fun k1 => ⟨tp.vg60, CT.im (by decide) (fun d3 hd3 => ct_usedWell (dm := 2046) hc hR b0 b1 (Or.inl ⟨by omega, e0, e1⟩) (by omega) (by decide) (fun V' M' gm U' run E F nu d0 f0 t0' w1 => ⟨fun _ => ?_, fun z => absurd (by decide) z⟩) (fun V' M' gm U' run E F nu f => ⟨fun z => absurd rfl z, fun _ => ?_⟩))⟩, fun k1 => no (by omega)⟩
  · have R' := hR.ev F E nu
    have m10 : M' 10 b = M 10 b := F.st (by omega)
    have m15 : M' 15 (12 * b + e) = M 15 (12 * b + e) := F.st (by omega)
    have m24 : M' 24 (4 * (12 * b + e) + t) = M 24 (4 * (12 * b + e) + t) := F.st (by omega)
    have he := E.bh.be e0 (by omega : e < M' 10 b)
    have ht' := he.tb t0 (by omega : t < M' 15 (12 * b + e))
    have wt := E.bd.wt e t e0 (by omega) w1 t0 (by omega)
    have en := ht'.en k (by omega) (by omega)
    rw [Wv_el (by omega)] at en
    rw [ht'.vr2, ht'.vn11, en]
    exact ⟨ht'.vg9, ht'.vg11, by omega, by omega, R'.top.vg60, hk 0 _ (up M' 0 69 (M' 56 (12 * (4 * (12 * b + e) + t) + k))) (fun Q hq => st_entry_0 (pm_isEnum n1 (fun _ _ _ _ => ⟨fun z => absurd z (by decide), fun _ => ⟨fun z => absurd z (by omega), fun _ => ⟨by omega, by omega, by omega, by omega, by omega, by omega, fun _ => ⟨by omega, by omega, by omega, by omega, fun z => absurd z (by omega), fun _ => ⟨by omega, by omega, fun _ => run _ ⟨by omega, by omega, by omega, by omega, by omega, by omega, st_ends_0 ⟨fun _ => hq, fun z => absurd f0 z⟩⟩, fun z => absurd k1 z⟩⟩, fun z => absurd t1 z⟩⟩⟩) (fun h => absurd ⟨b0, b1, e0, e1⟩ h))) (fun L j q => (upc_ne hc (by omega)).trans (ev_lab F L j q)) (up_out hc R') (by rw [up_ne (by omega), F.m0 (by omega)]; omega)⟩
  · exact hk (-3) V' M' (fun Q hq => st_entry_0 (pm_isEnum n1 (fun _ _ _ _ => ⟨fun z => absurd z (by decide), fun _ => ⟨fun z => absurd z (by omega), fun _ => ⟨by omega, by omega, by omega, by omega, by omega, by omega, fun _ => ⟨by omega, by omega, by omega, by omega, fun z => absurd z (by omega), fun _ => ⟨by omega, by omega, fun _ => run _ ⟨by omega, by omega, by omega, by omega, by omega, by omega, st_ends_0 ⟨fun z => absurd z f, fun _ => hq⟩⟩, fun z => absurd k1 z⟩⟩, fun z => absurd t1 z⟩⟩⟩) (fun h => absurd ⟨b0, b1, e0, e1⟩ h))) (ev_lab F) (hR.ev F E nu) (by rw [F.m0 (by omega)]; omega)
theorem call_holder (b e k : Int) : CallOK CI bX11_holder n_holder_0 [vi b, vi e, vi k] [b, e, k] := call_upd fun l G c S V M Q hc hR hk => qX11_holder fun _ _ _ _ => vX11_holder_0 <| by
  have tp := hR.top
  have n1 := tp.nb1
  have tl := tp.tl0
  have he12 : ∀ b, 0 ≤ b → b < M 0 8 → M 10 b ≤ 12 := fun b b0 b1 => (hR.bk b0 b1).bk.ne1
  have no : ¬ (0 ≤ b ∧ b < M 0 8 ∧ 0 ≤ e ∧ e < M 10 b ∧ 0 ≤ k ∧ k < M 17 (12 * b + e)) → Q (-1) S V := fun h => hk (-1) V M (fun Q hq => st_holder_0 (pm_isEnum n1 (fun a1 a2 a3 a4 => ⟨fun z => absurd z (by decide), fun _ => ⟨fun _ => hq, fun y1 => by
      have q1 := he12 b a1 a2
      exact ⟨by omega, by omega, by omega, by omega, by omega, by omega, fun y2 => absurd ⟨a1, a2, a3, a4, by omega, y2⟩ h, fun _ => hq⟩⟩⟩) (fun _ => ⟨fun _ => hq, fun z => absurd rfl z⟩))) (fun _ _ _ => rfl) hR (by omega)
  refine ⟨tp.vg60, CT.pu (by decide) (fun d1 hd1 => ct_enumOf hc hR (by omega) (fun b0 b1 e0 e1 => ⟨rfl, rfl, fun z => absurd z (hc.2 _).1, fun _ => ⟨fun _ => no (by omega), fun k0 => ?_⟩⟩) (fun h => ⟨rfl, rfl, fun _ => no (by omega), fun z => absurd rfl z⟩))⟩
  have ne1 := (hR.bk b0 b1).bk.ne1
  have hE := (hR.bk b0 b1).be e0 e1
  have nh1 := hE.en.nh1
  have ei : (100 + e * 4 + k - 100) / 4 = e ∨ 4 ≤ k := by omega
  rw [hE.en.vnh]
  refine ⟨hE.en.vg3, fun k1 => ⟨by omega, by omega, by omega, by omega, by omega, by omega, tp.vg60, CT.im (by decide) (fun d3 hd3 => ct_usedWell (dm := 2046) hc hR b0 b1 (Or.inr ⟨by omega, by omega, ?_⟩) (by omega) (by decide) (fun V' M' gm U' run E F nu d0 f0 t0' w1 => ⟨fun _ => ?_, fun z => absurd (by decide) z⟩) (fun V' M' gm U' run E F nu f => ⟨fun z => absurd rfl z, fun _ => ?_⟩))⟩, fun k1 => no (by omega)⟩
  · rw [show (100 + e * 4 + k - 100) / 4 = e from by omega, show (100 + e * 4 + k - 100) % 4 = k from by omega]
    exact k1
  · have R' := hR.ev F E nu
    have m10 : M' 10 b = M 10 b := F.st (by omega)
    have m17 : M' 17 (12 * b + e) = M 17 (12 * b + e) := F.st (by omega)
    have he := E.bh.be e0 (by omega : e < M' 10 b)
    have ho := E.bd.ho e k e0 (by omega) (by omega) (by omega) (by rw [show 100 + 4 * e + k = 100 + e * 4 + k from by omega]; exact w1)
    rw [Wv_el (by omega)] at ho
    rw [he.en.vr13, he.en.vn15, ho]
    rw [show 100 + e * 4 + k = 100 + 4 * e + k from by omega] at run
    exact ⟨he.en.vg3, he.en.vg15, by omega, by omega, R'.top.vg60, hk 0 _ (up M' 0 69 (M' 57 (4 * (12 * b + e) + k))) (fun Q hq => st_holder_0 (pm_isEnum n1 (fun _ _ _ _ => ⟨fun z => absurd z (by decide), fun _ => ⟨fun z => absurd z (by omega), fun _ => ⟨by omega, by omega, by omega, by omega, by omega, by omega, fun _ => ⟨by omega, by omega, by omega, by omega, by omega, by omega, run _ ⟨by omega, by omega, by omega, by omega, by omega, by omega, by omega, by omega, by omega, by omega, st_ends_0 ⟨fun _ => hq, fun z => absurd f0 z⟩⟩⟩, fun z => absurd k1 z⟩⟩⟩) (fun h => absurd ⟨b0, b1, e0, e1⟩ h))) (fun L j q => (upc_ne hc (by omega)).trans (ev_lab F L j q)) (up_out hc R') (by rw [up_ne (by omega), F.m0 (by omega)]; omega)⟩
  · rw [show 100 + e * 4 + k = 100 + 4 * e + k from by omega] at run
    exact hk (-3) V' M' (fun Q hq => st_holder_0 (pm_isEnum n1 (fun _ _ _ _ => ⟨fun z => absurd z (by decide), fun _ => ⟨fun z => absurd z (by omega), fun _ => ⟨by omega, by omega, by omega, by omega, by omega, by omega, fun _ => ⟨by omega, by omega, by omega, by omega, by omega, by omega, run _ ⟨by omega, by omega, by omega, by omega, by omega, by omega, by omega, by omega, by omega, by omega, st_ends_0 ⟨fun z => absurd z f, fun _ => hq⟩⟩⟩, fun z => absurd k1 z⟩⟩⟩) (fun h => absurd ⟨b0, b1, e0, e1⟩ h))) (ev_lab F) (hR.ev F E nu) (by rw [F.m0 (by omega)]; omega)

