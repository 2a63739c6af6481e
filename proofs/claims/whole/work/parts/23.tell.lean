/-! arraycopy; a heap becomes another one; texts told; rows held. -/
def wcp (w : ww) (o1 sp o2 dp n : Nat) : ww := fun a b => if a = o2 then va_cpy (w o1) (w o2) sp dp n b else w a b
theorem wcp_ne {w : ww} {o1 sp o2 dp n p : Nat} (h : p ≠ o2) : wcp w o1 sp o2 dp n p = w p := by funext b; simp [wcp, h]
def zLa (own : String) (idx : Nat) : Prop := Cond.methodLink own idx arraycopyName ∈ big ∧ Cond.native arraycopyName ∈ big ∧ Cond.static arraycopyName ∈ big ∧ Cond.initialized "java/lang/System" ∈ big
theorem nfw : nativeFrameWords "java/lang/System" "arraycopy" 5 + 11 ≤ 50 := by decide +kernel
set_option maxHeartbeats 2000000 in
theorem zr_acopy {own : String} {cc : ByteArray} {nL n : Nat} {G : zG} {pc np : Nat} {L : zL} {S : List Value} {w : ww} (h : zE own cc nL n G) {idx o1 o2 N1 N2 : Nat} {sp dp k : Int32} (hd : zD cc pc (.invokestatic idx) 3 np) (hl : zLa own idx) (hs1 : zshapes[o1]? = some (zia N1)) (hs2 : zshapes[o2]? = some (zia N2))
    (hh : (¬ sp < 0 ∧ ¬ dp < 0 ∧ ¬ k < 0 ∧ sp.toNatClampNeg + k.toNatClampNeg ≤ N1 ∧ dp.toNatClampNeg + k.toNatClampNeg ≤ N2 ∧ zcat S ≤ 8 ∧ 1 ≤ n) ∧ G np L S (wcp w o1 sp.toNatClampNeg o2 dp.toNatClampNeg k.toNatClampNeg)) : G pc L (.int k :: .int dp :: .ref o2 :: .int sp :: .ref o1 :: S) w := by
  refine h.elim fun p l e R s m args below meth c φ cA D A H0 cells slots Qm Ts hG hC hB hK hA hn1 hn2 hn3 hn4 => ?_
  subst hG
  obtain ⟨hx, hb, hml, hown, hts⟩ := hC
  obtain ⟨hd, rfl⟩ := hd
  obtain ⟨⟨h1, h2, h3, h4, h5, hcat, hn⟩, kk⟩ := hh
  obtain ⟨l1, l2, l3, l4⟩ := hl
  intro ls H locs hls hP hD hS
  have key : (zWS φ cA w).set o2 (φ o2, .inl (cA 0, N2, .inl (va_cpy (w o1) (w o2) sp.toNatClampNeg dp.toNatClampNeg k.toNatClampNeg))) = zWS φ cA (wcp w o1 sp.toNatClampNeg o2 dp.toNatClampNeg k.toNatClampNeg) := by
    have e : va_cpy (w o1) (w o2) sp.toNatClampNeg dp.toNatClampNeg k.toNatClampNeg = wcp w o1 sp.toNatClampNeg o2 dp.toNatClampNeg k.toNatClampNeg o2 := by funext b; simp [wcp]
    rw [e]
    exact zWS_set (φ := φ) (cA := cA) (w := w) (w' := wcp w o1 sp.toNatClampNeg o2 dp.toNatClampNeg k.toNatClampNeg) (sh := zia N2) hs2 (fun p hp => (wcp_ne hp).symm)
  have hq := nfw
  exact va_copyi hx hb (hml.trans hls.1.symm) hown (hts _ (hB _ l1)) (hts _ (hB _ l2)) (hts _ (hB _ l3)) (hts _ (hB _ l4)) hK.1 hP hD hS o1 o2 0 0 (zWS_get hs1) (zWS_get hs2) rfl rfl rfl h1 h2 h3 h4 h5 (fun i hi => rfl) (by omega) (by rw [zcat_tv]; omega) hd (fun H1 locs1 hP1 hD1 hS1 => kk ls H1 locs1 hls (key ▸ hP1) (key ▸ hD1) hS1)
theorem laX11_282 : zLa RX11 282 := ⟨big_in (List.mem_of_getElem? (i := 726) (by decide +kernel)) rfl, big_in (List.mem_of_getElem? (i := 285) (by decide +kernel)) rfl, big_in (List.mem_of_getElem? (i := 284) (by decide +kernel)) rfl, ikRJ10⟩
theorem laX5_41 : zLa RX5 41 := ⟨big_in (List.mem_of_getElem? (i := 283) (by decide +kernel)) rfl, big_in (List.mem_of_getElem? (i := 285) (by decide +kernel)) rfl, big_in (List.mem_of_getElem? (i := 284) (by decide +kernel)) rfl, ikRJ10⟩
set_option maxHeartbeats 4000000 in
theorem c_X5_become {h o : Nat} {w : ww} {Q : Option Value → ww → Prop} (hh : zH h) (ho : zH o) (hne : h ≠ o) (hQ : ∀ u : ww, (∀ p, p < h ∨ h + 5 < p → u p = w p) → u h 7 = w o 7 → u h 8 = w o 8 → (∀ k b, k < 5 → b < 10 → hB u h k b = hB w o k b) → Q none u) : Ct mX5_become 1 [.ref h, .ref o] w Q := by
  refine Ct.of (by decide) (Nat.le_of_ble_eq_true rfl) (fun _ => Nat.le_of_ble_eq_true rfl) (fun G hR => ?_)
  have hE := hR.1
  refine zr_aload_n hE eX5_become_0 rfl ?_
  refine zr_aload_n hE eX5_become_1 rfl ?_
  refine zr_getI hE eX5_become_2 fX5_34 (ho).s0 rfl ?_
  refine zr_put hE eX5_become_5 gX5_34 (hh).s0 rfl rfl rfl ?_
  refine zr_aload_n hE eX5_become_8 rfl ?_
  refine zr_aload_n hE eX5_become_9 rfl ?_
  refine zr_getI hE eX5_become_10 fX5_38 (ho).s0 rfl ?_
  refine zr_put hE eX5_become_13 gX5_38 (hh).s0 rfl rfl rfl ?_
  refine zr_aload_n hE eX5_become_16 rfl ?_
  refine zr_getR hE eX5_become_17 fX5_11 (ho).s0 rfl ?_
  refine zr_iconst hE eX5_become_20 (v := 0) (by decide) ?_
  refine zr_aload_n hE eX5_become_21 rfl ?_
  refine zr_getR hE eX5_become_22 fX5_11 (hh).s0 rfl ?_
  refine zr_iconst hE eX5_become_25 (v := 0) (by decide) ?_
  refine zr_bipush hE eX5_become_26 (v := 10) (by decide) ?_
  refine zr_acopy hE eX5_become_28 laX5_41 (ho).s1 (hh).s1 ?_
  refine ⟨⟨by decide, by decide, by decide, by decide, by decide, Nat.le_of_ble_eq_true rfl, by decide⟩, ?_⟩
  refine zr_aload_n hE eX5_become_31 rfl ?_
  refine zr_getR hE eX5_become_32 fX5_15 (ho).s0 rfl ?_
  refine zr_iconst hE eX5_become_35 (v := 0) (by decide) ?_
  refine zr_aload_n hE eX5_become_36 rfl ?_
  refine zr_getR hE eX5_become_37 fX5_15 (hh).s0 rfl ?_
  refine zr_iconst hE eX5_become_40 (v := 0) (by decide) ?_
  refine zr_bipush hE eX5_become_41 (v := 10) (by decide) ?_
  refine zr_acopy hE eX5_become_43 laX5_41 (ho).s2 (hh).s2 ?_
  refine ⟨⟨by decide, by decide, by decide, by decide, by decide, Nat.le_of_ble_eq_true rfl, by decide⟩, ?_⟩
  refine zr_aload_n hE eX5_become_46 rfl ?_
  refine zr_getR hE eX5_become_47 fX5_18 (ho).s0 rfl ?_
  refine zr_iconst hE eX5_become_50 (v := 0) (by decide) ?_
  refine zr_aload_n hE eX5_become_51 rfl ?_
  refine zr_getR hE eX5_become_52 fX5_18 (hh).s0 rfl ?_
  refine zr_iconst hE eX5_become_55 (v := 0) (by decide) ?_
  refine zr_bipush hE eX5_become_56 (v := 10) (by decide) ?_
  refine zr_acopy hE eX5_become_58 laX5_41 (ho).s3 (hh).s3 ?_
  refine ⟨⟨by decide, by decide, by decide, by decide, by decide, Nat.le_of_ble_eq_true rfl, by decide⟩, ?_⟩
  refine zr_aload_n hE eX5_become_61 rfl ?_
  refine zr_getR hE eX5_become_62 fX5_21 (ho).s0 rfl ?_
  refine zr_iconst hE eX5_become_65 (v := 0) (by decide) ?_
  refine zr_aload_n hE eX5_become_66 rfl ?_
  refine zr_getR hE eX5_become_67 fX5_21 (hh).s0 rfl ?_
  refine zr_iconst hE eX5_become_70 (v := 0) (by decide) ?_
  refine zr_bipush hE eX5_become_71 (v := 10) (by decide) ?_
  refine zr_acopy hE eX5_become_73 laX5_41 (ho).s4 (hh).s4 ?_
  refine ⟨⟨by decide, by decide, by decide, by decide, by decide, Nat.le_of_ble_eq_true rfl, by decide⟩, ?_⟩
  refine zr_aload_n hE eX5_become_76 rfl ?_
  refine zr_getR hE eX5_become_77 fX5_24 (ho).s0 rfl ?_
  refine zr_iconst hE eX5_become_80 (v := 0) (by decide) ?_
  refine zr_aload_n hE eX5_become_81 rfl ?_
  refine zr_getR hE eX5_become_82 fX5_24 (hh).s0 rfl ?_
  refine zr_iconst hE eX5_become_85 (v := 0) (by decide) ?_
  refine zr_bipush hE eX5_become_86 (v := 10) (by decide) ?_
  refine zr_acopy hE eX5_become_88 laX5_41 (ho).s5 (hh).s5 ?_
  refine ⟨⟨by decide, by decide, by decide, by decide, by decide, Nat.le_of_ble_eq_true rfl, by decide⟩, ?_⟩
  refine hR.2.2.2 _ _ _ _ eX5_become_91 rfl ?_
  have hd : h + 6 < o ∨ o + 6 < h := by rcases hh with rfl | rfl | rfl <;> rcases ho with rfl | rfl | rfl <;> first | exact absurd rfl hne | omega
  simp only [show (0 : Int32).toNatClampNeg = 0 from rfl, show (10 : Int32).toNatClampNeg = 10 from rfl]
  refine hQ _ (fun p hp => ?_) ?_ ?_ (fun k b hk hb => ?_)
  · rw [wcp_ne (by omega), wcp_ne (by omega), wcp_ne (by omega), wcp_ne (by omega), wcp_ne (by omega)]
    funext z
    rw [wu_ne (by omega), wu_ne (by omega)]
  · rw [wcp_ne (by omega), wcp_ne (by omega), wcp_ne (by omega), wcp_ne (by omega), wcp_ne (by omega), wu_nj (by decide), wu_eq]
  · rw [wcp_ne (by omega), wcp_ne (by omega), wcp_ne (by omega), wcp_ne (by omega), wcp_ne (by omega), wu_eq, wu_ne (by omega)]
  · rcases (show k = 0 ∨ k = 1 ∨ k = 2 ∨ k = 3 ∨ k = 4 by omega) with rfl | rfl | rfl | rfl | rfl <;> simp only [hB0, hB1, hB2, hB3, hB4] <;> simp (config := {decide := true}) [wcp, va_cpy, wu, hb] <;> (try omega)
    all_goals (repeat' split) <;> first | rfl | omega

def hAdd (w : ww) (h : Nat) (k f t s d : Int32) : Option ww := if 9 ≤ w h 7 then none else some (hPl w h k f t s d)
def hFlp (w : ww) (h : Nat) (b : Int32) : Option ww := if 0 ≤ b ∧ b < w h 7 then some (wu w (h+3) b.toNatClampNeg (1 - w (h+3) b.toNatClampNeg)) else none
def hDrp (w : ww) (h : Nat) : Option ww := if w h 7 = 0 then none else some (wu w h 7 (w h 7 - 1))
theorem c_add2 {h : Nat}{k f t s d : Int32} {w : ww} {Q : Option Value → ww → Prop} (hh : zH h) (hc : ¬ 9 ≤ w h 7 → vp_in (w h 7) 10) (hQ : Q (some (.int (bi (hAdd w h k f t s d).isSome))) ((hAdd w h k f t s d).getD w)) : Ct mX5_add 2 [.ref h, .int k, .int f, .int t, .int s, .int d] w Q := by
  refine c_X5_add hh hc (fun q => ?_) (fun q => ?_)
  · rw [hAdd, if_pos q] at hQ; exact hQ
  · rw [hAdd, if_neg q] at hQ; exact hQ
theorem c_flp2 {h : Nat} {b : Int32} {w : ww} {Q : Option Value → ww → Prop} (hh : zH h) (hb : 0 ≤ b ∧ b < w h 7 → vp_in b 10) (hQ : Q (some (.int (bi (hFlp w h b).isSome))) ((hFlp w h b).getD w)) : Ct mX5_flip 2 [.ref h, .int b] w Q := by
  refine c_X5_flip hh hb (fun q => ?_) (fun q => ?_)
  · rw [hFlp, if_neg q] at hQ; exact hQ
  · rw [hFlp, if_pos q] at hQ; exact hQ
theorem c_drp2 {h : Nat} {w : ww} {Q : Option Value → ww → Prop} (hh : zH h) (hQ : Q (some (.int (bi (hDrp w h).isSome))) ((hDrp w h).getD w)) : Ct mX5_dropLatest 1 [.ref h] w Q := by
  refine c_X5_dropLatest hh (fun q => ?_) (fun q => ?_)
  · rw [hDrp, if_pos q] at hQ; exact hQ
  · rw [hDrp, if_neg q] at hQ; exact hQ
def hTb (at0 : Int32 → Int32) (w : ww) (h : Nat) (i : Int32) : Option ww :=
  if at0 (i + 1) - 48 < 8 ∧ at0 (i + 3) - 48 ≤ 1 ∧ 1 ≤ fNuA at0 (i + 4) ∧ 1 ≤ fNuA at0 (fCm at0 i + 1) then hAdd w h (at0 (i + 1) - 48) (at0 (i + 2) - 48) (at0 (i + 3) - 48) (fNuA at0 (i + 4)) (fNuA at0 (fCm at0 i + 1)) else none
def hTl (at0 : Int32 → Int32) (w : ww) (h : Nat) (i : Int32) : Option ww :=
  if at0 i = 98 then hTb at0 w h i else if at0 i = 116 then hFlp w h (at0 (i + 1) - 48) else if at0 i = 119 then some (wu w h 8 (at0 (i + 1) - 48)) else hDrp w h
theorem zqo {Q : Option Value → ww → Prop} {o : Option ww} {w u : ww} {a : Int32} (hQ : Q (some (.int (bi o.isSome))) (o.getD w)) (ha : bi o.isSome = a) (hu : o.getD w = u) : Q (some (.int a)) u := ha ▸ hu ▸ hQ
set_option maxHeartbeats 4000000 in
theorem c_X5_tellBowl {h f : Nat} {i : Int32} {w : ww} {Q : Option Value → ww → Prop} (hh : zH h) (hs : zSf f) (hz : w f 5 ≤ 100) (hc : ¬ 9 ≤ w h 7 → vp_in (w h 7) 10) (hQ : Q (some (.int (bi (hTb (sAt w f) w h i).isSome))) ((hTb (sAt w f) w h i).getD w)) : Ct mX5_tellBowl 7 [.ref h, .ref f, .int i] w Q := by
  refine Ct.of (by decide) (Nat.le_of_ble_eq_true rfl) (fun _ => Nat.le_of_ble_eq_true rfl) (fun G hR => ?_)
  have hE := hR.1
  refine zr_aload_n hE eX5_tellBowl_0 rfl ?_
  refine zr_iload_n hE eX5_tellBowl_1 rfl ?_
  refine zr_iconst hE eX5_tellBowl_2 (v := 1) (by decide) ?_
  refine zr_iadd hE eX5_tellBowl_3 ?_
  refine zr_callV1 hE eX5_tellBowl_4 lX5_65 (hs).s0 rfl rfl (by decide) (Nat.le_of_ble_eq_true rfl) (c_X10_digitAt hs hz ?_)
  refine zr_istore_n hE eX5_tellBowl_7 (by decide) rfl ?_
  refine zr_aload_n hE eX5_tellBowl_8 rfl ?_
  refine zr_iload_n hE eX5_tellBowl_9 rfl ?_
  refine zr_iconst hE eX5_tellBowl_10 (v := 3) (by decide) ?_
  refine zr_iadd hE eX5_tellBowl_11 ?_
  refine zr_callV1 hE eX5_tellBowl_12 lX5_65 (hs).s0 rfl rfl (by decide) (Nat.le_of_ble_eq_true rfl) (c_X10_digitAt hs hz ?_)
  refine zr_istore hE eX5_tellBowl_15 (by decide) rfl ?_
  refine zr_aload_n hE eX5_tellBowl_17 rfl ?_
  refine zr_iload_n hE eX5_tellBowl_18 rfl ?_
  refine zr_iconst hE eX5_tellBowl_19 (v := 5) (by decide) ?_
  refine zr_iadd hE eX5_tellBowl_20 ?_
  refine zr_callV1 hE eX5_tellBowl_21 lX5_55 (hs).s0 rfl rfl (by decide) (Nat.le_of_ble_eq_true rfl) (c_X10_at hs hz ?_)
  refine zr_bipush hE eX5_tellBowl_24 (v := 44) (by decide) ?_
  refine zr_icmp_ne hE eX5_tellBowl_26 (tgt := 35) (by decide) (fun zc26 => ?_) (fun zc26 => ?_)
  · refine zr_iload_n hE eX5_tellBowl_35 rfl ?_
    refine zr_bipush hE eX5_tellBowl_36 (v := 6) (by decide) ?_
    refine zr_iadd hE eX5_tellBowl_38 ?_
    refine zr_istore hE eX5_tellBowl_39 (by decide) rfl ?_
    refine zr_aload_n hE eX5_tellBowl_41 rfl ?_
    refine zr_iload_n hE eX5_tellBowl_42 rfl ?_
    refine zr_iconst hE eX5_tellBowl_43 (v := 4) (by decide) ?_
    refine zr_iadd hE eX5_tellBowl_44 ?_
    refine zr_callV1 hE eX5_tellBowl_45 lX5_75 (hs).s0 rfl rfl (by decide) (Nat.le_of_ble_eq_true rfl) (c_X10_numberAt hs hz ?_)
    refine zr_istore hE eX5_tellBowl_48 (by decide) rfl ?_
    refine zr_aload_n hE eX5_tellBowl_50 rfl ?_
    refine zr_iload hE eX5_tellBowl_51 rfl ?_
    refine zr_iconst hE eX5_tellBowl_53 (v := 1) (by decide) ?_
    refine zr_iadd hE eX5_tellBowl_54 ?_
    refine zr_callV1 hE eX5_tellBowl_55 lX5_75 (hs).s0 rfl rfl (by decide) (Nat.le_of_ble_eq_true rfl) (c_X10_numberAt hs hz ?_)
    refine zr_istore hE eX5_tellBowl_58 (by decide) rfl ?_
    first
      | have ec : fCm (sAt w f) i = i + 5 := if_pos zc26
      | have ec : fCm (sAt w f) i = i + 6 := if_neg zc26
    refine zr_iload_n hE eX5_tellBowl_60 rfl ?_
    refine zr_bipush hE eX5_tellBowl_61 (v := 8) (by decide) ?_
    refine zr_kicmp_ge hE eX5_tellBowl_63 (tgt := 84) (by decide) (fun zc63 zd63 => ?_) (fun zc63 zd63 => ?_)
    · refine zr_iconst hE eX5_tellBowl_84 (v := 0) (by decide) ?_
      refine hR.2.1 _ _ _ _ _ _ eX5_tellBowl_85 rfl rfl ?_
      have e : hTb (sAt w f) w h i = none := by
        rw [hTb, if_neg]
        rintro ⟨q1, q2, q3, q4⟩
        rw [ec] at q4
        first | exact zc63 q1 | exact zc69 q2 | exact zc75 q3 | exact absurd q4 (Int32.not_le.mpr zc81)
      exact zqo hQ (by rw [e]; rfl) (by rw [e]; rfl)
    · refine zr_iload hE eX5_tellBowl_66 rfl ?_
      refine zr_iconst hE eX5_tellBowl_68 (v := 1) (by decide) ?_
      refine zr_kicmp_gt hE eX5_tellBowl_69 (tgt := 84) (by decide) (fun zc69 zd69 => ?_) (fun zc69 zd69 => ?_)
      · refine zr_iconst hE eX5_tellBowl_84 (v := 0) (by decide) ?_
        refine hR.2.1 _ _ _ _ _ _ eX5_tellBowl_85 rfl rfl ?_
        have e : hTb (sAt w f) w h i = none := by
          rw [hTb, if_neg]
          rintro ⟨q1, q2, q3, q4⟩
          rw [ec] at q4
          first | exact zc63 q1 | exact zc69 q2 | exact zc75 q3 | exact absurd q4 (Int32.not_le.mpr zc81)
        exact zqo hQ (by rw [e]; rfl) (by rw [e]; rfl)
      · refine zr_iload hE eX5_tellBowl_72 rfl ?_
        refine zr_iconst hE eX5_tellBowl_74 (v := 1) (by decide) ?_
        refine zr_kicmp_lt hE eX5_tellBowl_75 (tgt := 84) (by decide) (fun zc75 zd75 => ?_) (fun zc75 zd75 => ?_)
        · refine zr_iconst hE eX5_tellBowl_84 (v := 0) (by decide) ?_
          refine hR.2.1 _ _ _ _ _ _ eX5_tellBowl_85 rfl rfl ?_
          have e : hTb (sAt w f) w h i = none := by
            rw [hTb, if_neg]
            rintro ⟨q1, q2, q3, q4⟩
            rw [ec] at q4
            first | exact zc63 q1 | exact zc69 q2 | exact zc75 q3 | exact absurd q4 (Int32.not_le.mpr zc81)
          exact zqo hQ (by rw [e]; rfl) (by rw [e]; rfl)
        · refine zr_iload hE eX5_tellBowl_78 rfl ?_
          refine zr_iconst hE eX5_tellBowl_80 (v := 1) (by decide) ?_
          refine zr_kicmp_ge hE eX5_tellBowl_81 (tgt := 86) (by decide) (fun zc81 zd81 => ?_) (fun zc81 zd81 => ?_)
          · refine zr_aload_n hE eX5_tellBowl_86 rfl ?_
            refine zr_iload_n hE eX5_tellBowl_87 rfl ?_
            refine zr_aload_n hE eX5_tellBowl_88 rfl ?_
            refine zr_iload_n hE eX5_tellBowl_89 rfl ?_
            refine zr_iconst hE eX5_tellBowl_90 (v := 2) (by decide) ?_
            refine zr_iadd hE eX5_tellBowl_91 ?_
            refine zr_callV1 hE eX5_tellBowl_92 lX5_65 (hs).s0 rfl rfl (by decide) (Nat.le_of_ble_eq_true rfl) (c_X10_digitAt hs hz ?_)
            refine zr_iload hE eX5_tellBowl_95 rfl ?_
            refine zr_iload hE eX5_tellBowl_97 rfl ?_
            refine zr_iload hE eX5_tellBowl_99 rfl ?_
            refine zr_callV5 hE eX5_tellBowl_101 lX5_78 (hh).s0 rfl rfl (by decide) (Nat.le_of_ble_eq_true rfl) (c_add2 hh hc ?_)
            refine hR.2.1 _ _ _ _ _ _ eX5_tellBowl_104 rfl (narrow_bi _) ?_
            have e : hTb (sAt w f) w h i = hAdd w h (sAt w f (i + 1) - 48) (sAt w f (i + 2) - 48) (sAt w f (i + 3) - 48) (fNuA (sAt w f) (i + 4)) (fNuA (sAt w f) (fCm (sAt w f) i + 1)) := by
              rw [hTb, if_pos]
              rw [ec]
              exact ⟨zc63, zc69, zc75, by first | exact zd81 | exact zc81⟩
            rw [e, ec] at hQ
            exact hQ
          · refine zr_iconst hE eX5_tellBowl_84 (v := 0) (by decide) ?_
            refine hR.2.1 _ _ _ _ _ _ eX5_tellBowl_85 rfl rfl ?_
            have e : hTb (sAt w f) w h i = none := by
              rw [hTb, if_neg]
              rintro ⟨q1, q2, q3, q4⟩
              rw [ec] at q4
              first | exact zc63 q1 | exact zc69 q2 | exact zc75 q3 | exact absurd q4 (Int32.not_le.mpr zc81)
            exact zqo hQ (by rw [e]; rfl) (by rw [e]; rfl)
  · refine zr_iload_n hE eX5_tellBowl_29 rfl ?_
    refine zr_iconst hE eX5_tellBowl_30 (v := 5) (by decide) ?_
    refine zr_iadd hE eX5_tellBowl_31 ?_
    refine zr_goto hE eX5_tellBowl_32 (tgt := 39) (by decide) ?_
    refine zr_istore hE eX5_tellBowl_39 (by decide) rfl ?_
    refine zr_aload_n hE eX5_tellBowl_41 rfl ?_
    refine zr_iload_n hE eX5_tellBowl_42 rfl ?_
    refine zr_iconst hE eX5_tellBowl_43 (v := 4) (by decide) ?_
    refine zr_iadd hE eX5_tellBowl_44 ?_
    refine zr_callV1 hE eX5_tellBowl_45 lX5_75 (hs).s0 rfl rfl (by decide) (Nat.le_of_ble_eq_true rfl) (c_X10_numberAt hs hz ?_)
    refine zr_istore hE eX5_tellBowl_48 (by decide) rfl ?_
    refine zr_aload_n hE eX5_tellBowl_50 rfl ?_
    refine zr_iload hE eX5_tellBowl_51 rfl ?_
    refine zr_iconst hE eX5_tellBowl_53 (v := 1) (by decide) ?_
    refine zr_iadd hE eX5_tellBowl_54 ?_
    refine zr_callV1 hE eX5_tellBowl_55 lX5_75 (hs).s0 rfl rfl (by decide) (Nat.le_of_ble_eq_true rfl) (c_X10_numberAt hs hz ?_)
    refine zr_istore hE eX5_tellBowl_58 (by decide) rfl ?_
    first
      | have ec : fCm (sAt w f) i = i + 5 := if_pos zc26
      | have ec : fCm (sAt w f) i = i + 6 := if_neg zc26
    refine zr_iload_n hE eX5_tellBowl_60 rfl ?_
    refine zr_bipush hE eX5_tellBowl_61 (v := 8) (by decide) ?_
    refine zr_kicmp_ge hE eX5_tellBowl_63 (tgt := 84) (by decide) (fun zc63 zd63 => ?_) (fun zc63 zd63 => ?_)
    · refine zr_iconst hE eX5_tellBowl_84 (v := 0) (by decide) ?_
      refine hR.2.1 _ _ _ _ _ _ eX5_tellBowl_85 rfl rfl ?_
      have e : hTb (sAt w f) w h i = none := by
        rw [hTb, if_neg]
        rintro ⟨q1, q2, q3, q4⟩
        rw [ec] at q4
        first | exact zc63 q1 | exact zc69 q2 | exact zc75 q3 | exact absurd q4 (Int32.not_le.mpr zc81)
      exact zqo hQ (by rw [e]; rfl) (by rw [e]; rfl)
    · refine zr_iload hE eX5_tellBowl_66 rfl ?_
      refine zr_iconst hE eX5_tellBowl_68 (v := 1) (by decide) ?_
      refine zr_kicmp_gt hE eX5_tellBowl_69 (tgt := 84) (by decide) (fun zc69 zd69 => ?_) (fun zc69 zd69 => ?_)
      · refine zr_iconst hE eX5_tellBowl_84 (v := 0) (by decide) ?_
        refine hR.2.1 _ _ _ _ _ _ eX5_tellBowl_85 rfl rfl ?_
        have e : hTb (sAt w f) w h i = none := by
          rw [hTb, if_neg]
          rintro ⟨q1, q2, q3, q4⟩
          rw [ec] at q4
          first | exact zc63 q1 | exact zc69 q2 | exact zc75 q3 | exact absurd q4 (Int32.not_le.mpr zc81)
        exact zqo hQ (by rw [e]; rfl) (by rw [e]; rfl)
      · refine zr_iload hE eX5_tellBowl_72 rfl ?_
        refine zr_iconst hE eX5_tellBowl_74 (v := 1) (by decide) ?_
        refine zr_kicmp_lt hE eX5_tellBowl_75 (tgt := 84) (by decide) (fun zc75 zd75 => ?_) (fun zc75 zd75 => ?_)
        · refine zr_iconst hE eX5_tellBowl_84 (v := 0) (by decide) ?_
          refine hR.2.1 _ _ _ _ _ _ eX5_tellBowl_85 rfl rfl ?_
          have e : hTb (sAt w f) w h i = none := by
            rw [hTb, if_neg]
            rintro ⟨q1, q2, q3, q4⟩
            rw [ec] at q4
            first | exact zc63 q1 | exact zc69 q2 | exact zc75 q3 | exact absurd q4 (Int32.not_le.mpr zc81)
          exact zqo hQ (by rw [e]; rfl) (by rw [e]; rfl)
        · refine zr_iload hE eX5_tellBowl_78 rfl ?_
          refine zr_iconst hE eX5_tellBowl_80 (v := 1) (by decide) ?_
          refine zr_kicmp_ge hE eX5_tellBowl_81 (tgt := 86) (by decide) (fun zc81 zd81 => ?_) (fun zc81 zd81 => ?_)
          · refine zr_aload_n hE eX5_tellBowl_86 rfl ?_
            refine zr_iload_n hE eX5_tellBowl_87 rfl ?_
            refine zr_aload_n hE eX5_tellBowl_88 rfl ?_
            refine zr_iload_n hE eX5_tellBowl_89 rfl ?_
            refine zr_iconst hE eX5_tellBowl_90 (v := 2) (by decide) ?_
            refine zr_iadd hE eX5_tellBowl_91 ?_
            refine zr_callV1 hE eX5_tellBowl_92 lX5_65 (hs).s0 rfl rfl (by decide) (Nat.le_of_ble_eq_true rfl) (c_X10_digitAt hs hz ?_)
            refine zr_iload hE eX5_tellBowl_95 rfl ?_
            refine zr_iload hE eX5_tellBowl_97 rfl ?_
            refine zr_iload hE eX5_tellBowl_99 rfl ?_
            refine zr_callV5 hE eX5_tellBowl_101 lX5_78 (hh).s0 rfl rfl (by decide) (Nat.le_of_ble_eq_true rfl) (c_add2 hh hc ?_)
            refine hR.2.1 _ _ _ _ _ _ eX5_tellBowl_104 rfl (narrow_bi _) ?_
            have e : hTb (sAt w f) w h i = hAdd w h (sAt w f (i + 1) - 48) (sAt w f (i + 2) - 48) (sAt w f (i + 3) - 48) (fNuA (sAt w f) (i + 4)) (fNuA (sAt w f) (fCm (sAt w f) i + 1)) := by
              rw [hTb, if_pos]
              rw [ec]
              exact ⟨zc63, zc69, zc75, by first | exact zd81 | exact zc81⟩
            rw [e, ec] at hQ
            exact hQ
          · refine zr_iconst hE eX5_tellBowl_84 (v := 0) (by decide) ?_
            refine hR.2.1 _ _ _ _ _ _ eX5_tellBowl_85 rfl rfl ?_
            have e : hTb (sAt w f) w h i = none := by
              rw [hTb, if_neg]
              rintro ⟨q1, q2, q3, q4⟩
              rw [ec] at q4
              first | exact zc63 q1 | exact zc69 q2 | exact zc75 q3 | exact absurd q4 (Int32.not_le.mpr zc81)
            exact zqo hQ (by rw [e]; rfl) (by rw [e]; rfl)

set_option maxHeartbeats 4000000 in
theorem c_X5_tell {h f : Nat} {i : Int32} {w : ww} {Q : Option Value → ww → Prop} (hh : zH h) (hs : zSf f) (hz : w f 5 ≤ 100) (hc : ¬ 9 ≤ w h 7 → vp_in (w h 7) 10) (hb : ∀ b : Int32, 0 ≤ b ∧ b < w h 7 → vp_in b 10) (hQ : Q (some (.int (bi (hTl (sAt w f) w h i).isSome))) ((hTl (sAt w f) w h i).getD w)) : Ct mX5_tell 8 [.ref h, .ref f, .int i] w Q := by
  refine Ct.of (by decide) (Nat.le_of_ble_eq_true rfl) (fun _ => Nat.le_of_ble_eq_true rfl) (fun G hR => ?_)
  have hE := hR.1
  refine zr_aload_n hE eX5_tell_0 rfl ?_
  refine zr_iload_n hE eX5_tell_1 rfl ?_
  refine zr_callV1 hE eX5_tell_2 lX5_55 (hs).s0 rfl rfl (by decide) (Nat.le_of_ble_eq_true rfl) (c_X10_at hs hz ?_)
  refine zr_lswK hE eX5_tell_5 (by decide) (98) (35) 40 (98) (by decide) (by decide) (by decide) (fun zk5_98 => ?_) (fun zk5_98 => ?_)
  · refine zr_aload_n hE eX5_tell_40 rfl ?_
    refine zr_aload_n hE eX5_tell_41 rfl ?_
    refine zr_iload_n hE eX5_tell_42 rfl ?_
    refine zr_callV2 hE eX5_tell_43 lX5_61 (hh).s0 rfl rfl (by decide) (Nat.le_of_ble_eq_true rfl) (c_X5_tellBowl hh hs hz hc ?_)
    refine hR.2.1 _ _ _ _ _ _ eX5_tell_46 rfl (narrow_bi _) ?_
    first
      | (have e : hTl (sAt w f) w h i = hTb (sAt w f) w h i := by rw [hTl, if_pos zk5_98]
         rw [e] at hQ; exact hQ)
      | (have e : hTl (sAt w f) w h i = hFlp w h (sAt w f (i + 1) - 48) := by rw [hTl, if_neg zk5_98, if_pos zk5_116]
         rw [e] at hQ; exact hQ)
      | (have e : hTl (sAt w f) w h i = some (wu w h 8 (sAt w f (i + 1) - 48)) := by rw [hTl, if_neg zk5_98, if_neg zk5_116, if_pos zk5_119]
         rw [e] at hQ; exact hQ)
      | (have e : hTl (sAt w f) w h i = hDrp w h := by rw [hTl, if_neg zk5_98, if_neg zk5_116, if_neg zk5_119]
         rw [e] at hQ; exact hQ)
  refine zr_lswK hE eX5_tell_5 (by decide) (116) (55) 60 (116) (by decide) (by decide) (by decide) (fun zk5_116 => ?_) (fun zk5_116 => ?_)
  · refine zr_aload_n hE eX5_tell_60 rfl ?_
    refine zr_aload_n hE eX5_tell_61 rfl ?_
    refine zr_iload_n hE eX5_tell_62 rfl ?_
    refine zr_iconst hE eX5_tell_63 (v := 1) (by decide) ?_
    refine zr_iadd hE eX5_tell_64 ?_
    refine zr_callV1 hE eX5_tell_65 lX5_65 (hs).s0 rfl rfl (by decide) (Nat.le_of_ble_eq_true rfl) (c_X10_digitAt hs hz ?_)
    refine zr_callV1 hE eX5_tell_68 lX5_68 (hh).s0 rfl rfl (by decide) (Nat.le_of_ble_eq_true rfl) (c_flp2 hh (hb _) ?_)
    refine hR.2.1 _ _ _ _ _ _ eX5_tell_71 rfl (narrow_bi _) ?_
    first
      | (have e : hTl (sAt w f) w h i = hTb (sAt w f) w h i := by rw [hTl, if_pos zk5_98]
         rw [e] at hQ; exact hQ)
      | (have e : hTl (sAt w f) w h i = hFlp w h (sAt w f (i + 1) - 48) := by rw [hTl, if_neg zk5_98, if_pos zk5_116]
         rw [e] at hQ; exact hQ)
      | (have e : hTl (sAt w f) w h i = some (wu w h 8 (sAt w f (i + 1) - 48)) := by rw [hTl, if_neg zk5_98, if_neg zk5_116, if_pos zk5_119]
         rw [e] at hQ; exact hQ)
      | (have e : hTl (sAt w f) w h i = hDrp w h := by rw [hTl, if_neg zk5_98, if_neg zk5_116, if_neg zk5_119]
         rw [e] at hQ; exact hQ)
  refine zr_lswK hE eX5_tell_5 (by decide) (119) (42) 47 (119) (by decide) (by decide) (by decide) (fun zk5_119 => ?_) (fun zk5_119 => ?_)
  · refine zr_aload_n hE eX5_tell_47 rfl ?_
    refine zr_aload_n hE eX5_tell_48 rfl ?_
    refine zr_iload_n hE eX5_tell_49 rfl ?_
    refine zr_iconst hE eX5_tell_50 (v := 1) (by decide) ?_
    refine zr_iadd hE eX5_tell_51 ?_
    refine zr_callV1 hE eX5_tell_52 lX5_65 (hs).s0 rfl rfl (by decide) (Nat.le_of_ble_eq_true rfl) (c_X10_digitAt hs hz ?_)
    refine zr_put hE eX5_tell_55 gX5_38 (hh).s0 rfl rfl rfl ?_
    refine zr_iconst hE eX5_tell_58 (v := 1) (by decide) ?_
    refine hR.2.1 _ _ _ _ _ _ eX5_tell_59 rfl rfl ?_
    first
      | (have e : hTl (sAt w f) w h i = hTb (sAt w f) w h i := by rw [hTl, if_pos zk5_98]
         rw [e] at hQ; exact hQ)
      | (have e : hTl (sAt w f) w h i = hFlp w h (sAt w f (i + 1) - 48) := by rw [hTl, if_neg zk5_98, if_pos zk5_116]
         rw [e] at hQ; exact hQ)
      | (have e : hTl (sAt w f) w h i = some (wu w h 8 (sAt w f (i + 1) - 48)) := by rw [hTl, if_neg zk5_98, if_neg zk5_116, if_pos zk5_119]
         rw [e] at hQ; exact hQ)
      | (have e : hTl (sAt w f) w h i = hDrp w h := by rw [hTl, if_neg zk5_98, if_neg zk5_116, if_neg zk5_119]
         rw [e] at hQ; exact hQ)
  refine zr_lookup hE eX5_tell_5 (by decide) (off := 67) (tgt := 72) ?_ (by decide) ?_
  · have zm98 := zne zk5_98 (v := 98) (by decide); have zm116 := zne zk5_116 (v := 116) (by decide); have zm119 := zne zk5_119 (v := 119) (by decide); simp only [Op.lookupswitch.offset_cons, Op.lookupswitch.offset_nil]; rw [if_neg (fun q => zm98 q.symm)]; rw [if_neg (fun q => zm116 q.symm)]; rw [if_neg (fun q => zm119 q.symm)]
  refine zr_aload_n hE eX5_tell_72 rfl ?_
  refine zr_callV0 hE eX5_tell_73 lX5_71 (hh).s0 rfl rfl (by decide) (Nat.le_of_ble_eq_true rfl) (c_drp2 hh ?_)
  refine hR.2.1 _ _ _ _ _ _ eX5_tell_76 rfl (narrow_bi _) ?_
  first
    | (have e : hTl (sAt w f) w h i = hTb (sAt w f) w h i := by rw [hTl, if_pos zk5_98]
       rw [e] at hQ; exact hQ)
    | (have e : hTl (sAt w f) w h i = hFlp w h (sAt w f (i + 1) - 48) := by rw [hTl, if_neg zk5_98, if_pos zk5_116]
       rw [e] at hQ; exact hQ)
    | (have e : hTl (sAt w f) w h i = some (wu w h 8 (sAt w f (i + 1) - 48)) := by rw [hTl, if_neg zk5_98, if_neg zk5_116, if_pos zk5_119]
       rw [e] at hQ; exact hQ)
    | (have e : hTl (sAt w f) w h i = hDrp w h := by rw [hTl, if_neg zk5_98, if_neg zk5_116, if_neg zk5_119]
       rw [e] at hQ; exact hQ)

