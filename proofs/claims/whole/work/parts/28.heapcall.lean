/-! heap, from; new bowls thought of. -/
/-- the trial's count, and that all but the trial stays -/
def tri (p : Nat) : Prop := 17 ≤ p ∧ p ≤ 22
theorem hTl_ok {at0 : Int32 → Int32} {w u : ww} {p : Int32} {c : Nat} (hc : c ≤ 9) (h7 : w 17 7 = nI c) (h : hTl at0 w 17 p = some u) : (∃ c2, c2 ≤ 9 ∧ u 17 7 = nI c2) ∧ ∀ q, ¬ tri q → u q = w q := by
  have hadd : ∀ (k f t s d : Int32) (u : ww), hAdd w 17 k f t s d = some u → (∃ c2, c2 ≤ 9 ∧ u 17 7 = nI c2) ∧ ∀ q, ¬ tri q → u q = w q := by
    intro k f t s d u h
    unfold hAdd at h
    split at h
    · cases h
    · rename_i q9
      cases h
      have h9 : c < 9 := by
        rw [h7, show (9 : Int32) = nI 9 from rfl, nI_leI (by decide) (by omega)] at q9
        omega
      refine ⟨⟨c + 1, by omega, ?_⟩, fun q hq => ?_⟩
      · unfold hPl; rw [wu_eq, h7, nI_1]
      · unfold tri at hq
        unfold hPl; funext z
        rw [wu_ne (by omega), wu_ne (by omega), wu_ne (by omega), wu_ne (by omega), wu_ne (by omega), wu_ne (by omega)]
  unfold hTl at h
  split at h
  · unfold hTb at h
    split at h
    · exact hadd _ _ _ _ _ u h
    · cases h
  · split at h
    · unfold hFlp at h
      split at h
      · cases h
        refine ⟨⟨c, hc, by rw [wu_ne (by decide)]; exact h7⟩, fun q hq => ?_⟩
        unfold tri at hq; funext z; rw [wu_ne (by omega)]
      · cases h
    · split at h
      · cases h
        refine ⟨⟨c, hc, by rw [wu_nj (by decide)]; exact h7⟩, fun q hq => ?_⟩
        unfold tri at hq; funext z; rw [wu_ne (by omega)]
      · unfold hDrp at h
        split at h
        · cases h
        · rename_i q0
          cases h
          have h0 : c ≠ 0 := fun q => q0 (by rw [h7, q]; rfl)
          refine ⟨⟨c - 1, by omega, ?_⟩, fun q hq => ?_⟩
          · rw [wu_eq, h7]
            obtain ⟨c0, rfl⟩ : ∃ c0, c = c0 + 1 := ⟨c - 1, by omega⟩
            rw [nI_pred]; rfl
          · unfold tri at hq; funext z; rw [wu_ne (by omega)]
def taF (at0 : Int32 → Int32) (n : Int32) : Nat → Int32 → ww → Int32 → Int32 ⊕ (ww × Int32)
  | 0, _, u, t => .inr (u, t)
  | k + 1, p, u, t => if p < n then (match hTl at0 u 17 p with
    | some u2 => taF at0 n k (fStE at0 p) u2 (t + 1)
    | none => .inl p) else .inr (u, t)
set_option maxHeartbeats 4000000 in
theorem ta_lp {G : zG} {w : ww} {Q : Option Value → ww → Prop} {sf xn : Nat} {r : Int32 ⊕ (ww × Int32)} (hR : zR RX11 cX11_tellAll 4 9 (some .int) Q G) (xsf : zSf sf) (xn1 : xn ≤ 100) (xn2 : w sf 5 = nI xn)
    (hQ1 : ∀ p, r = .inl p → ∀ u : ww, (∀ q, ¬ tri q → u q = w q) → Q (some (.int ((-2000) - p))) u) (hQ2 : ∀ u1 t, r = .inr (u1, t) → ∀ u, Bec u1 17 u 10 → Q (some (.int t)) u) :
    ∀ (k i c : Nat) (p : Int32) (u : ww), i ≤ xn → xn - i = k → c ≤ 9 → u 17 7 = nI c → (∀ q, ¬ tri q → u q = w q) → taF (sAt w sf) (nI xn) k p u (nI i) = r → G 15 [some (.ref 0), some (.ref sf), some (.int (nI i)), some (.int p)] [] u := by
  have hE := hR.1
  have xsf2 := xsf.cases
  intro k
  induction k with
  | zero =>
    intro i c p u h1 h2 hc9 h7 hof hr
    have hic : i = xn := by omega
    have xn3 : u sf 5 = nI xn := by rw [hof sf (by unfold tri; omega)]; exact xn2
    refine zr_iload_n hE eX11_tellAll_15 rfl ?_
    refine zr_aload_n hE eX11_tellAll_16 rfl ?_
    refine zr_getI hE eX11_tellAll_17 fX11_211 (xsf).s0 rfl ?_
    rw [xn3]
    refine zr_kicmp_ge hE eX11_tellAll_20 (tgt := 61) (by decide) (fun zc20 zd20 => ?_) (fun zc20 zd20 => ?_)
    · refine zr_aload_n hE eX11_tellAll_61 rfl ?_
      refine zr_getR hE eX11_tellAll_62 fX11_42 zs0 rfl ?_
      refine zr_aload_n hE eX11_tellAll_65 rfl ?_
      refine zr_getR hE eX11_tellAll_66 fX11_46 zs0 rfl ?_
      refine zr_callV1 hE eX11_tellAll_69 lX11_192 (zH10).s0 rfl rfl (by decide) (Nat.le_of_ble_eq_true rfl) (c_X5_become zH10 zH17 (by decide) (fun xu xof x7 x8 xB => ?_))
      refine zr_iload_n hE eX11_tellAll_72 rfl ?_
      refine hR.2.1 _ _ _ _ _ _ eX11_tellAll_73 rfl rfl ?_
      rw [taF] at hr
      exact hQ2 u (nI i) hr.symm xu ⟨xof, x7, x8, xB⟩
    · refine zr_iload_n hE eX11_tellAll_23 rfl ?_
      refine zr_aload_n hE eX11_tellAll_24 rfl ?_
      refine zr_getI hE eX11_tellAll_25 fX11_211 (xsf).s0 rfl ?_
      rw [xn3]
      refine zr_kicmp_ge hE eX11_tellAll_28 (tgt := 61) (by decide) (fun zc28 zd28 => ?_) (fun zc28 zd28 => absurd zc28 (by rw [nI_ltI (by omega) (by omega)]; omega))
      refine zr_aload_n hE eX11_tellAll_61 rfl ?_
      refine zr_getR hE eX11_tellAll_62 fX11_42 zs0 rfl ?_
      refine zr_aload_n hE eX11_tellAll_65 rfl ?_
      refine zr_getR hE eX11_tellAll_66 fX11_46 zs0 rfl ?_
      refine zr_callV1 hE eX11_tellAll_69 lX11_192 (zH10).s0 rfl rfl (by decide) (Nat.le_of_ble_eq_true rfl) (c_X5_become zH10 zH17 (by decide) (fun xu xof x7 x8 xB => ?_))
      refine zr_iload_n hE eX11_tellAll_72 rfl ?_
      refine hR.2.1 _ _ _ _ _ _ eX11_tellAll_73 rfl rfl ?_
      rw [taF] at hr
      exact hQ2 u (nI i) hr.symm xu ⟨xof, x7, x8, xB⟩
  | succ k ih =>
    intro i c p u h1 h2 hc9 h7 hof hr
    have xi0 : i < xn := by omega
    have xn3 : u sf 5 = nI xn := by rw [hof sf (by unfold tri; omega)]; exact xn2
    have xat : sAt u sf = sAt w sf := by
      funext i; unfold sAt; rw [hof sf (by unfold tri; omega), hof (sf+1) (by unfold tri; omega)]
    refine zr_iload_n hE eX11_tellAll_15 rfl ?_
    refine zr_aload_n hE eX11_tellAll_16 rfl ?_
    refine zr_getI hE eX11_tellAll_17 fX11_211 (xsf).s0 rfl ?_
    rw [xn3]
    refine zr_kicmp_ge hE eX11_tellAll_20 (tgt := 61) (by decide) (fun zc20 zd20 => ?_) (fun zc20 zd20 => ?_)
    · refine zr_aload_n hE eX11_tellAll_61 rfl ?_
      refine zr_getR hE eX11_tellAll_62 fX11_42 zs0 rfl ?_
      refine zr_aload_n hE eX11_tellAll_65 rfl ?_
      refine zr_getR hE eX11_tellAll_66 fX11_46 zs0 rfl ?_
      refine zr_callV1 hE eX11_tellAll_69 lX11_192 (zH10).s0 rfl rfl (by decide) (Nat.le_of_ble_eq_true rfl) (c_X5_become zH10 zH17 (by decide) (fun xu xof x7 x8 xB => ?_))
      refine zr_iload_n hE eX11_tellAll_72 rfl ?_
      refine hR.2.1 _ _ _ _ _ _ eX11_tellAll_73 rfl rfl ?_
      rw [taF, if_neg zc20] at hr
      exact hQ2 u (nI i) hr.symm xu ⟨xof, x7, x8, xB⟩
    · refine zr_iload_n hE eX11_tellAll_23 rfl ?_
      refine zr_aload_n hE eX11_tellAll_24 rfl ?_
      refine zr_getI hE eX11_tellAll_25 fX11_211 (xsf).s0 rfl ?_
      rw [xn3]
      refine zr_kicmp_ge hE eX11_tellAll_28 (tgt := 61) (by decide) (fun zc28 zd28 => absurd ((nI_ltI (by omega) (by omega)).mpr xi0) zc28) (fun zc28 zd28 => ?_)
      refine zr_aload_n hE eX11_tellAll_31 rfl ?_
      refine zr_getR hE eX11_tellAll_32 fX11_46 zs0 rfl ?_
      refine zr_aload_n hE eX11_tellAll_35 rfl ?_
      refine zr_iload_n hE eX11_tellAll_36 rfl ?_
      refine zr_callV2 hE eX11_tellAll_37 lX11_299 (zH17).s0 rfl rfl (by decide) (Nat.le_of_ble_eq_true rfl) (c_X5_tell zH17 xsf (by rw [xn3, show (100 : Int32) = nI 100 from rfl, nI_leI (by omega) (by decide)]; exact xn1) (fun q => by rw [h7]; exact vpn (by omega) (by decide)) (fun b q => (has_vp q h7 (by omega)).1) ?_)
      rw [xat]
      refine zr_bne hE eX11_tellAll_40 (tgt := 49) (by decide) (fun zc40 => ?_) (fun zc40 => ?_)
      · refine zr_aload_n hE eX11_tellAll_49 rfl ?_
        refine zr_iload_n hE eX11_tellAll_50 rfl ?_
        have xu5 : ((hTl (sAt w sf) u 17 p).getD u) sf 5 = nI xn := by
          obtain ⟨u2, hu⟩ := Option.isSome_iff_exists.mp zc40
          rw [hu]
          show u2 sf 5 = nI xn
          rw [(hTl_ok hc9 h7 hu).2 sf (by unfold tri; omega), hof sf (by unfold tri; omega)]; exact xn2
        have xat2 : sAt ((hTl (sAt w sf) u 17 p).getD u) sf = sAt w sf := by
          obtain ⟨u2, hu⟩ := Option.isSome_iff_exists.mp zc40
          rw [hu]
          show sAt u2 sf = sAt w sf
          have e1 := (hTl_ok hc9 h7 hu).2
          funext i; unfold sAt; rw [e1 sf (by unfold tri; omega), e1 (sf+1) (by unfold tri; omega), hof sf (by unfold tri; omega), hof (sf+1) (by unfold tri; omega)]
        refine zr_callV1 hE eX11_tellAll_51 lX11_303 (xsf).s0 rfl rfl (by decide) (Nat.le_of_ble_eq_true rfl) (c_X10_statementEnd xsf (by rw [xu5, show (100 : Int32) = nI 100 from rfl, nI_leI (by omega) (by decide)]; exact xn1) ?_)
        refine zr_istore_n hE eX11_tellAll_54 (by decide) rfl ?_
        refine zr_iincN hE eX11_tellAll_55 rfl (by decide) rfl ?_
        refine zr_goto hE eX11_tellAll_58 (tgt := 15) (by decide) ?_
        obtain ⟨u2, hu⟩ := Option.isSome_iff_exists.mp zc40
        have ho := hTl_ok hc9 h7 hu
        rw [xat2, hu]
        rw [taF, if_pos zc20, hu] at hr
        obtain ⟨c2, hc2, h72⟩ := ho.1
        exact ih (i + 1) c2 _ u2 (by omega) (by omega) hc2 h72 (fun q hq => by rw [ho.2 q hq]; exact hof q hq) (by rw [← nI_1]; exact hr)
      · refine zr_sipush hE eX11_tellAll_43 (v := -2000) (by decide) ?_
        refine zr_iload_n hE eX11_tellAll_46 rfl ?_
        refine zr_isub hE eX11_tellAll_47 ?_
        refine hR.2.1 _ _ _ _ _ _ eX11_tellAll_48 rfl rfl ?_
        have hu : hTl (sAt w sf) u 17 p = none := by simpa using zc40
        rw [hu]
        rw [taF, if_pos zc20, hu] at hr
        refine hQ1 p (hr.symm) u (fun q hq => hof q hq)
set_option maxHeartbeats 4000000 in
theorem c_X11_tellAll {sf xn c : Nat} {w : ww} {Q : Option Value → ww → Prop} (hN : Now w c) (xsf : zSf sf) (xn1 : xn ≤ 100) (xn2 : w sf 5 = nI xn) (hQ : ∀ u0, Bec w 10 u0 17 → (∀ p, taF (sAt w sf) (nI xn) xn 0 u0 0 = .inl p → ∀ u : ww, (∀ q, ¬ tri q → u q = w q) → Q (some (.int ((-2000) - p))) u) ∧ (∀ u1 t, taF (sAt w sf) (nI xn) xn 0 u0 0 = .inr (u1, t) → ∀ u, Bec u1 17 u 10 → Q (some (.int t)) u))  : Ct mX11_tellAll 9 [.ref 0, .ref sf] w Q := by
  refine Ct.of (by decide) (Nat.le_of_ble_eq_true rfl) (fun _ => Nat.le_of_ble_eq_true rfl) (fun G hR => ?_)
  have hE := hR.1
  refine zr_aload_n hE eX11_tellAll_0 rfl ?_
  refine zr_getR hE eX11_tellAll_1 fX11_46 zs0 rfl ?_
  refine zr_aload_n hE eX11_tellAll_4 rfl ?_
  refine zr_getR hE eX11_tellAll_5 fX11_42 zs0 rfl ?_
  refine zr_callV1 hE eX11_tellAll_8 lX11_192 (zH17).s0 rfl rfl (by decide) (Nat.le_of_ble_eq_true rfl) (c_X5_become zH17 zH10 (by decide) (fun xu xof x7 x8 xB => ?_))
  refine zr_iconst hE eX11_tellAll_11 (v := 0) (by decide) ?_
  refine zr_istore_n hE eX11_tellAll_12 (by decide) rfl ?_
  refine zr_iconst hE eX11_tellAll_13 (v := 0) (by decide) ?_
  refine zr_istore_n hE eX11_tellAll_14 (by decide) rfl ?_
  have xsf2 := xsf.cases
  obtain ⟨xq1, xq2⟩ := hQ xu ⟨xof, x7, x8, xB⟩
  have xof2 : ∀ q, ¬ tri q → xu q = w q := fun q hq => xof q (by unfold tri at hq; omega)
  have xat0 : sAt xu sf = sAt w sf := by
    funext i; unfold sAt; rw [xof2 sf (by unfold tri; omega), xof2 (sf+1) (by unfold tri; omega)]
  refine ta_lp (w := xu) (r := taF (sAt w sf) (nI xn) xn 0 xu 0) hR xsf xn1 (by rw [xof2 sf (by unfold tri; omega)]; exact xn2) (fun p hp u hu => xq1 p hp u (fun q hq => by rw [hu q hq]; exact xof2 q hq)) xq2 xn 0 c 0 xu (Nat.zero_le _) rfl hN.1 (by rw [x7]; exact hN.2.1) (fun _ _ => rfl) (by rw [xat0]; rfl)

def ffW (w : ww) (sf n : Nat) : Int32 := if n = 0 then 0 else ffF (sAt w sf) (nI n) n 0
set_option maxHeartbeats 4000000 in
theorem c_X11_heap {c : Nat} {d : Int32} {w : ww} {Q : Option Value → ww → Prop} (hN : Now w c) (hS : Sok w d) (hQ1 : ¬ rfB w d = 0 → Q (some (.int (rfB w d))) w) (hQ2 : rfB w d = 0 → ∀ n, n ≤ 100 → w (fSh d) 5 = nI n → 0 ≤ ffW w (fSh d) n → Q (some (.int ((-1000) - ffW w (fSh d) n))) w) (hQ3 : rfB w d = 0 → ∀ n, n ≤ 100 → w (fSh d) 5 = nI n → ¬ 0 ≤ ffW w (fSh d) n → ∀ u0, Bec w 10 u0 17 → (∀ p, taF (sAt w (fSh d)) (nI n) n 0 u0 0 = .inl p → ∀ u : ww, (∀ q, ¬ tri q → u q = w q) → Q (some (.int ((-2000) - p))) u) ∧ (∀ u1 t, taF (sAt w (fSh d)) (nI n) n 0 u0 0 = .inr (u1, t) → ∀ u, Bec u1 17 u 10 → Q (some (.int t)) u))  : Ct mX11_heap 10 [.ref 0, .int d] w Q := by
  refine Ct.of (by decide) (Nat.le_of_ble_eq_true rfl) (fun _ => Nat.le_of_ble_eq_true rfl) (fun G hR => ?_)
  have hE := hR.1
  refine zr_aload_n hE eX11_heap_0 rfl ?_
  refine zr_iload_n hE eX11_heap_1 rfl ?_
  refine zr_callV1 hE eX11_heap_2 lX11_70 zs0 rfl rfl (by decide) (Nat.le_of_ble_eq_true rfl) (c_X11_bytesRefusal ?_)
  refine zr_istore_n hE eX11_heap_5 (by decide) rfl ?_
  refine zr_iload_n hE eX11_heap_6 rfl ?_
  refine zr_if_eq hE eX11_heap_7 (tgt := 12) (by decide) (fun zc7 => ?_) (fun zc7 => ?_)
  · obtain ⟨xn, xn1, xn2⟩ := hS (rfB_0 zc7)
    refine zr_aload_n hE eX11_heap_12 rfl ?_
    refine zr_getR hE eX11_heap_13 fX11_61 zs0 rfl ?_
    refine zr_iload_n hE eX11_heap_16 rfl ?_
    refine zr_shelves hE eX11_heap_17 (fIs_vp (rfS_is (rfB_0 zc7))) ?_
    show G _ _ (.ref (fSh d) :: _) _
    refine zr_callV0 hE eX11_heap_18 lX11_74 ((fSh_sf (rfS_is (rfB_0 zc7)))).s0 rfl rfl (by decide) (Nat.le_of_ble_eq_true rfl) (c_X10_faultOfForm (n := xn) (fSh_sf (rfS_is (rfB_0 zc7))) xn2 xn1 ?_)
    show G _ _ (.int (ffW w (fSh d) xn) :: _) _
    refine zr_istore_n hE eX11_heap_21 (by decide) rfl ?_
    refine zr_iload_n hE eX11_heap_22 rfl ?_
    refine zr_kif_lt hE eX11_heap_23 (tgt := 32) (by decide) (fun zc23 zd23 => ?_) (fun zc23 zd23 => ?_)
    · refine zr_aload_n hE eX11_heap_32 rfl ?_
      refine zr_aload_n hE eX11_heap_33 rfl ?_
      refine zr_getR hE eX11_heap_34 fX11_61 zs0 rfl ?_
      refine zr_iload_n hE eX11_heap_37 rfl ?_
      refine zr_shelves hE eX11_heap_38 (fIs_vp (rfS_is (rfB_0 zc7))) ?_
      show G _ _ (.ref (fSh d) :: _) _
      refine zr_callV1 hE eX11_heap_39 lX11_78 zs0 rfl rfl (by decide) (Nat.le_of_ble_eq_true rfl) (c_X11_tellAll (xn := xn) (c := c) hN (fSh_sf (rfS_is (rfB_0 zc7))) xn1 xn2 (fun u0 hu0 => ?_))
      obtain ⟨xq1, xq2⟩ := hQ3 zc7 xn xn1 xn2 zc23 u0 hu0
      exact ⟨fun p hp u hu => hR.2.1 _ _ _ _ _ _ eX11_heap_42 rfl rfl (xq1 p hp u hu), fun u1 t ht u hu => hR.2.1 _ _ _ _ _ _ eX11_heap_42 rfl rfl (xq2 u1 t ht u hu)⟩
    · refine zr_sipush hE eX11_heap_26 (v := -1000) (by decide) ?_
      refine zr_iload_n hE eX11_heap_29 rfl ?_
      refine zr_isub hE eX11_heap_30 ?_
      refine hR.2.1 _ _ _ _ _ _ eX11_heap_31 rfl rfl ?_
      exact hQ2 zc7 xn xn1 xn2 zc23
  · refine zr_iload_n hE eX11_heap_10 rfl ?_
    refine hR.2.1 _ _ _ _ _ _ eX11_heap_11 rfl rfl ?_
    exact hQ1 zc7

