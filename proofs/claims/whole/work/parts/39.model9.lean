/-! The reference: canBeBetween, throwsNew. -/
def cbF (B : zBv) (v : Int32) (a b : Nat) : Bool := decide (fOut B a (B 3 a) + 2 + v ≤ (if fIn B b (B 3 b) v < 99 then fIn B b (B 3 b) v else 99)) && decide (B 4 a ≤ (if B 4 b + B 1 b < 99 then B 4 b + B 1 b else 99))
set_option maxHeartbeats 4000000 in
theorem c_X12_canBeBetween {a b : Int32} {w : ww} {Q : Option Value → ww → Prop} (ha : vp_in a 10) (hb : vp_in b 10) (hka : vp_in (mB w 0 a.toNatClampNeg) 8) (hkb : vp_in (mB w 0 b.toNatClampNeg) 8) (hQ : Q (some (.int (bi (cbF (mB w) (w 58 1) a.toNatClampNeg b.toNatClampNeg)))) w) : Ct mX12_canBeBetween 5 [.ref 57, .int a, .int b] w Q := by
  refine Ct.of (by decide) (Nat.le_of_ble_eq_true rfl) (fun _ => Nat.le_of_ble_eq_true rfl) (fun G hR => ?_)
  have hE := hR.1
  refine zr_aload_n hE eX12_canBeBetween_0 rfl ?_
  refine zr_iload_n hE eX12_canBeBetween_1 rfl ?_
  refine zr_callV1 hE eX12_canBeBetween_2 lX12_145 zs57 rfl rfl (by decide) (Nat.le_of_ble_eq_true rfl) (c_X12_inside hb hkb ?_)
  refine zr_bipush hE eX12_canBeBetween_5 (v := 99) (by decide) ?_
  refine zr_kicmp_ge hE eX12_canBeBetween_7 (tgt := 18) (by decide) (fun zc7 zd7 => ?_) (fun zc7 zd7 => ?_)
  · refine zr_bipush hE eX12_canBeBetween_18 (v := 99) (by decide) ?_
    refine zr_istore_n hE eX12_canBeBetween_20 (by decide) rfl ?_
    refine zr_aload_n hE eX12_canBeBetween_21 rfl ?_
    refine zr_iload_n hE eX12_canBeBetween_22 rfl ?_
    refine zr_callV1 hE eX12_canBeBetween_23 lX12_82 zs57 rfl rfl (by decide) (Nat.le_of_ble_eq_true rfl) (c_X12_outside ha hka ?_)
    refine zr_iconst hE eX12_canBeBetween_26 (v := 2) (by decide) ?_
    refine zr_iadd hE eX12_canBeBetween_27 ?_
    refine zr_aload_n hE eX12_canBeBetween_28 rfl ?_
    refine zr_getR hE eX12_canBeBetween_29 fX12_9 zs57 rfl ?_
    refine zr_iconst hE eX12_canBeBetween_32 (v := 1) (by decide) ?_
    refine zr_iald hE eX12_canBeBetween_33 zs58 (by unfold vp_in; decide) ?_
    refine zr_iadd hE eX12_canBeBetween_34 ?_
    refine zr_istore hE eX12_canBeBetween_35 (by decide) rfl ?_
    refine zr_aload_n hE eX12_canBeBetween_37 rfl ?_
    refine zr_iload_n hE eX12_canBeBetween_38 rfl ?_
    refine zr_iconst hE eX12_canBeBetween_39 (v := 4) (by decide) ?_
    refine zr_callV2 hE eX12_canBeBetween_40 lX12_63 zs57 rfl rfl (by decide) (Nat.le_of_ble_eq_true rfl) (c_X12_get 4 hb rfl (by decide) ?_)
    refine zr_aload_n hE eX12_canBeBetween_43 rfl ?_
    refine zr_iload_n hE eX12_canBeBetween_44 rfl ?_
    refine zr_iconst hE eX12_canBeBetween_45 (v := 1) (by decide) ?_
    refine zr_callV2 hE eX12_canBeBetween_46 lX12_63 zs57 rfl rfl (by decide) (Nat.le_of_ble_eq_true rfl) (c_X12_get 1 hb rfl (by decide) ?_)
    refine zr_iadd hE eX12_canBeBetween_49 ?_
    refine zr_istore hE eX12_canBeBetween_50 (by decide) rfl ?_
    refine zr_iload hE eX12_canBeBetween_52 rfl ?_
    refine zr_iload_n hE eX12_canBeBetween_54 rfl ?_
    refine zr_kicmp_gt hE eX12_canBeBetween_55 (tgt := 85) (by decide) (fun zc55 zd55 => ?_) (fun zc55 zd55 => ?_)
    · refine zr_iconst hE eX12_canBeBetween_85 (v := 0) (by decide) ?_
      refine hR.2.1 _ _ _ _ _ _ eX12_canBeBetween_86 rfl rfl ?_
      exact zq hQ (zb0 (by simp only [cbF]; simp_all [-Int32.not_le, -Int32.not_lt]))
    · refine zr_aload_n hE eX12_canBeBetween_58 rfl ?_
      refine zr_iload_n hE eX12_canBeBetween_59 rfl ?_
      refine zr_iconst hE eX12_canBeBetween_60 (v := 4) (by decide) ?_
      refine zr_callV2 hE eX12_canBeBetween_61 lX12_63 zs57 rfl rfl (by decide) (Nat.le_of_ble_eq_true rfl) (c_X12_get 4 ha rfl (by decide) ?_)
      refine zr_iload hE eX12_canBeBetween_64 rfl ?_
      refine zr_bipush hE eX12_canBeBetween_66 (v := 99) (by decide) ?_
      refine zr_kicmp_ge hE eX12_canBeBetween_68 (tgt := 76) (by decide) (fun zc68 zd68 => ?_) (fun zc68 zd68 => ?_)
      · refine zr_bipush hE eX12_canBeBetween_76 (v := 99) (by decide) ?_
        refine zr_kicmp_gt hE eX12_canBeBetween_78 (tgt := 85) (by decide) (fun zc78 zd78 => ?_) (fun zc78 zd78 => ?_)
        · refine zr_iconst hE eX12_canBeBetween_85 (v := 0) (by decide) ?_
          refine hR.2.1 _ _ _ _ _ _ eX12_canBeBetween_86 rfl rfl ?_
          exact zq hQ (zb0 (by simp only [cbF]; simp_all [-Int32.not_le, -Int32.not_lt]))
        · refine zr_iconst hE eX12_canBeBetween_81 (v := 1) (by decide) ?_
          refine zr_goto hE eX12_canBeBetween_82 (tgt := 86) (by decide) ?_
          refine hR.2.1 _ _ _ _ _ _ eX12_canBeBetween_86 rfl rfl ?_
          exact zq hQ (zb1 (by simp only [cbF]; simp_all [-Int32.not_le, -Int32.not_lt]))
      · refine zr_iload hE eX12_canBeBetween_71 rfl ?_
        refine zr_goto hE eX12_canBeBetween_73 (tgt := 78) (by decide) ?_
        refine zr_kicmp_gt hE eX12_canBeBetween_78 (tgt := 85) (by decide) (fun zc78 zd78 => ?_) (fun zc78 zd78 => ?_)
        · refine zr_iconst hE eX12_canBeBetween_85 (v := 0) (by decide) ?_
          refine hR.2.1 _ _ _ _ _ _ eX12_canBeBetween_86 rfl rfl ?_
          exact zq hQ (zb0 (by simp only [cbF]; simp_all [-Int32.not_le, -Int32.not_lt]))
        · refine zr_iconst hE eX12_canBeBetween_81 (v := 1) (by decide) ?_
          refine zr_goto hE eX12_canBeBetween_82 (tgt := 86) (by decide) ?_
          refine hR.2.1 _ _ _ _ _ _ eX12_canBeBetween_86 rfl rfl ?_
          exact zq hQ (zb1 (by simp only [cbF]; simp_all [-Int32.not_le, -Int32.not_lt]))
  · refine zr_aload_n hE eX12_canBeBetween_10 rfl ?_
    refine zr_iload_n hE eX12_canBeBetween_11 rfl ?_
    refine zr_callV1 hE eX12_canBeBetween_12 lX12_145 zs57 rfl rfl (by decide) (Nat.le_of_ble_eq_true rfl) (c_X12_inside hb hkb ?_)
    refine zr_goto hE eX12_canBeBetween_15 (tgt := 20) (by decide) ?_
    refine zr_istore_n hE eX12_canBeBetween_20 (by decide) rfl ?_
    refine zr_aload_n hE eX12_canBeBetween_21 rfl ?_
    refine zr_iload_n hE eX12_canBeBetween_22 rfl ?_
    refine zr_callV1 hE eX12_canBeBetween_23 lX12_82 zs57 rfl rfl (by decide) (Nat.le_of_ble_eq_true rfl) (c_X12_outside ha hka ?_)
    refine zr_iconst hE eX12_canBeBetween_26 (v := 2) (by decide) ?_
    refine zr_iadd hE eX12_canBeBetween_27 ?_
    refine zr_aload_n hE eX12_canBeBetween_28 rfl ?_
    refine zr_getR hE eX12_canBeBetween_29 fX12_9 zs57 rfl ?_
    refine zr_iconst hE eX12_canBeBetween_32 (v := 1) (by decide) ?_
    refine zr_iald hE eX12_canBeBetween_33 zs58 (by unfold vp_in; decide) ?_
    refine zr_iadd hE eX12_canBeBetween_34 ?_
    refine zr_istore hE eX12_canBeBetween_35 (by decide) rfl ?_
    refine zr_aload_n hE eX12_canBeBetween_37 rfl ?_
    refine zr_iload_n hE eX12_canBeBetween_38 rfl ?_
    refine zr_iconst hE eX12_canBeBetween_39 (v := 4) (by decide) ?_
    refine zr_callV2 hE eX12_canBeBetween_40 lX12_63 zs57 rfl rfl (by decide) (Nat.le_of_ble_eq_true rfl) (c_X12_get 4 hb rfl (by decide) ?_)
    refine zr_aload_n hE eX12_canBeBetween_43 rfl ?_
    refine zr_iload_n hE eX12_canBeBetween_44 rfl ?_
    refine zr_iconst hE eX12_canBeBetween_45 (v := 1) (by decide) ?_
    refine zr_callV2 hE eX12_canBeBetween_46 lX12_63 zs57 rfl rfl (by decide) (Nat.le_of_ble_eq_true rfl) (c_X12_get 1 hb rfl (by decide) ?_)
    refine zr_iadd hE eX12_canBeBetween_49 ?_
    refine zr_istore hE eX12_canBeBetween_50 (by decide) rfl ?_
    refine zr_iload hE eX12_canBeBetween_52 rfl ?_
    refine zr_iload_n hE eX12_canBeBetween_54 rfl ?_
    refine zr_kicmp_gt hE eX12_canBeBetween_55 (tgt := 85) (by decide) (fun zc55 zd55 => ?_) (fun zc55 zd55 => ?_)
    · refine zr_iconst hE eX12_canBeBetween_85 (v := 0) (by decide) ?_
      refine hR.2.1 _ _ _ _ _ _ eX12_canBeBetween_86 rfl rfl ?_
      exact zq hQ (zb0 (by simp only [cbF]; simp_all [-Int32.not_le, -Int32.not_lt]))
    · refine zr_aload_n hE eX12_canBeBetween_58 rfl ?_
      refine zr_iload_n hE eX12_canBeBetween_59 rfl ?_
      refine zr_iconst hE eX12_canBeBetween_60 (v := 4) (by decide) ?_
      refine zr_callV2 hE eX12_canBeBetween_61 lX12_63 zs57 rfl rfl (by decide) (Nat.le_of_ble_eq_true rfl) (c_X12_get 4 ha rfl (by decide) ?_)
      refine zr_iload hE eX12_canBeBetween_64 rfl ?_
      refine zr_bipush hE eX12_canBeBetween_66 (v := 99) (by decide) ?_
      refine zr_kicmp_ge hE eX12_canBeBetween_68 (tgt := 76) (by decide) (fun zc68 zd68 => ?_) (fun zc68 zd68 => ?_)
      · refine zr_bipush hE eX12_canBeBetween_76 (v := 99) (by decide) ?_
        refine zr_kicmp_gt hE eX12_canBeBetween_78 (tgt := 85) (by decide) (fun zc78 zd78 => ?_) (fun zc78 zd78 => ?_)
        · refine zr_iconst hE eX12_canBeBetween_85 (v := 0) (by decide) ?_
          refine hR.2.1 _ _ _ _ _ _ eX12_canBeBetween_86 rfl rfl ?_
          exact zq hQ (zb0 (by simp only [cbF]; simp_all [-Int32.not_le, -Int32.not_lt]))
        · refine zr_iconst hE eX12_canBeBetween_81 (v := 1) (by decide) ?_
          refine zr_goto hE eX12_canBeBetween_82 (tgt := 86) (by decide) ?_
          refine hR.2.1 _ _ _ _ _ _ eX12_canBeBetween_86 rfl rfl ?_
          exact zq hQ (zb1 (by simp only [cbF]; simp_all [-Int32.not_le, -Int32.not_lt]))
      · refine zr_iload hE eX12_canBeBetween_71 rfl ?_
        refine zr_goto hE eX12_canBeBetween_73 (tgt := 78) (by decide) ?_
        refine zr_kicmp_gt hE eX12_canBeBetween_78 (tgt := 85) (by decide) (fun zc78 zd78 => ?_) (fun zc78 zd78 => ?_)
        · refine zr_iconst hE eX12_canBeBetween_85 (v := 0) (by decide) ?_
          refine hR.2.1 _ _ _ _ _ _ eX12_canBeBetween_86 rfl rfl ?_
          exact zq hQ (zb0 (by simp only [cbF]; simp_all [-Int32.not_le, -Int32.not_lt]))
        · refine zr_iconst hE eX12_canBeBetween_81 (v := 1) (by decide) ?_
          refine zr_goto hE eX12_canBeBetween_82 (tgt := 86) (by decide) ?_
          refine hR.2.1 _ _ _ _ _ _ eX12_canBeBetween_86 rfl rfl ?_
          exact zq hQ (zb1 (by simp only [cbF]; simp_all [-Int32.not_le, -Int32.not_lt]))

def tmF (lz br : Nat → Nat → Bool) (out : Nat → Int32) : Nat → Nat → Option Nat → Int32 → Int32
  | 0, _, _, g => if 2 < g then -4 else g
  | k + 1, left, last, g => if left = 0 then (if 2 < g then -4 else g) else match omF out left 10 with
    | none => -4
    | some b => match last with
      | none => tmF lz br out k (nDif left (2 ^ b)) (some b) g
      | some a => if lz b a = true then tmF lz br out k (nDif left (2 ^ b)) (some b) g else if br b a = true then tmF lz br out k (nDif left (2 ^ b)) (some b) (g + 1) else -4
def tmR (B : zBv) (v : Int32) (c : Nat) : Int32 := tmF (fun a b => fLi B a b v) (cbF B v) (oB B) (2 ^ c - 1) (2 ^ c - 1) none 0
set_option maxHeartbeats 4000000 in
theorem tw_lp {G : zG} {w : ww} {Q : Option Value → ww → Prop} {s : Nat} {r : Int32} (hk : Mks w s) (hR : zR RX12 cX12_throwsNew 5 7 (some .int) Q G) (hQ : Q (some (.int r)) w) :
    ∀ (k left : Nat) (last : Option Nat) (g : Int32), left ≤ k → left < 1024 → (∀ b, left.testBit b = true → s.testBit b = true) → (∀ a, last = some a → a < 10 ∧ s.testBit a = true) → tmF (fun a b => fLi (mB w) a b (w 58 1)) (cbF (mB w) (w 58 1)) (oB (mB w)) k left last g = r → G 22 [some (.ref 57), some (.int g), some (.int (nI left)), some (.int (enc4 last)), none] [] w := by
  have hE := hR.1
  have zero : ∀ (last : Option Nat) (g : Int32), (if 2 < g then -4 else g) = r → G 22 [some (.ref 57), some (.int g), some (.int (nI 0)), some (.int (enc4 last)), none] [] w := by
    intro last g hr
    refine zr_iload_n hE eX12_throwsNew_22 rfl ?_
    refine zr_if_eq hE eX12_throwsNew_23 (tgt := 78) (by decide) (fun zc23 => ?_) (fun zc23 => absurd (show nI 0 = 0 from rfl) zc23)
    refine zr_iload_n hE eX12_throwsNew_78 rfl ?_
    refine zr_iconst hE eX12_throwsNew_79 (v := 2) (by decide) ?_
    refine zr_kicmp_le hE eX12_throwsNew_80 (tgt := 88) (by decide) (fun zc80 zd80 => ?_) (fun zc80 zd80 => ?_)
    · refine zr_iload_n hE eX12_throwsNew_88 rfl ?_
      refine hR.2.1 _ _ _ _ _ _ eX12_throwsNew_89 rfl rfl ?_
      rw [if_neg zc80] at hr
      rw [hr]
      exact hQ
    · refine zr_bipush hE eX12_throwsNew_83 (v := -4) (by decide) ?_
      refine zr_goto hE eX12_throwsNew_85 (tgt := 89) (by decide) ?_
      refine hR.2.1 _ _ _ _ _ _ eX12_throwsNew_89 rfl rfl ?_
      rw [if_pos zc80] at hr
      rw [← hr] at hQ
      exact hQ
  intro k
  induction k with
  | zero =>
    intro left last g hk0 hl hsub hla hr
    have hl0 : left = 0 := by omega
    subst hl0
    exact zero last g hr
  | succ k ih =>
    intro left last g hk0 hl hsub hla hr
    by_cases hl0 : left = 0
    · subst hl0
      rw [tmF, if_pos rfl] at hr
      exact zero last g hr
    obtain ⟨b, hob⟩ := omF_ex (out := oB (mB w)) hl hl0
    have xb := omF_lt hob
    refine zr_iload_n hE eX12_throwsNew_22 rfl ?_
    refine zr_if_eq hE eX12_throwsNew_23 (tgt := 78) (by decide) (fun zc23 => absurd ((nI_0i (by omega)).mp zc23) hl0) (fun zc23 => ?_)
    refine zr_aload_n hE eX12_throwsNew_26 rfl ?_
    refine zr_iload_n hE eX12_throwsNew_27 rfl ?_
    refine zr_callV1 hE eX12_throwsNew_28 lX12_165 zs57 rfl rfl (by decide) (Nat.le_of_ble_eq_true rfl) (c_X12_outermost hl (hk.sub hsub) ?_)
    rw [hob]
    show G _ _ (.int (nI b) :: _) _
    refine zr_istore hE eX12_throwsNew_31 (by decide) rfl ?_
    refine zr_iload_n hE eX12_throwsNew_33 rfl ?_
    refine zr_kif_lt hE eX12_throwsNew_34 (tgt := 63) (by decide) (fun zc34 zd34 => ?_) (fun zc34 zd34 => ?_)
    · refine zr_iload hE eX12_throwsNew_63 rfl ?_
      refine zr_istore_n hE eX12_throwsNew_65 (by decide) rfl ?_
      refine zr_iload_n hE eX12_throwsNew_66 rfl ?_
      refine zr_iconst hE eX12_throwsNew_67 (v := 1) (by decide) ?_
      refine zr_iload hE eX12_throwsNew_68 rfl ?_
      refine zr_ishl hE eX12_throwsNew_70 ?_
      show G _ _ (.int ((1 : Int32) <<< (nI b &&& 31)) :: _) _
      rw [nb_sh1 b (by have := xb.1; omega)]
      refine zr_iconst hE eX12_throwsNew_71 (v := -1) (by decide) ?_
      refine zr_ixor hE eX12_throwsNew_72 ?_
      refine zr_iand hE eX12_throwsNew_73 ?_
      show G _ _ (.int (nI left &&& (nI (2 ^ b) ^^^ (-1))) :: _) _
      rw [nb_dif]
      refine zr_istore_n hE eX12_throwsNew_74 (by decide) rfl ?_
      refine zr_goto hE eX12_throwsNew_75 (tgt := 22) (by decide) ?_
      have xl := (enc4_lt (fun a q => (hla a q).1)).mp zd34
      subst xl
      refine zr_mask hE [true, true, true, true, false] ?_
      refine ih (nDif left (2 ^ b)) (some b) _ (by have := nDif_lt hl xb.2; omega) (by have := nDif_lt hl xb.2; omega) (fun i q => hsub i (nDif_sub hl q)) (fun a q => by cases q; exact ⟨xb.1, hsub b xb.2⟩) ?_
      rw [← hr, tmF, if_neg hl0, hob]
    · obtain ⟨a, xa⟩ : ∃ a, last = some a := by
        cases h : last with
        | none => exact absurd ((enc4_lt (fun a q => (hla a q).1)).mpr h) zd34
        | some a => exact ⟨a, rfl⟩
      have xa2 := hla a xa
      subst xa
      show G _ [some (.ref 57), some (.int g), some (.int (nI left)), some (.int (nI a)), some (.int (nI b))] _ _
      have xe1 : (nI b).toNatClampNeg = b := nI_clamp (by have := xb.1; omega)
      have xe2 : (nI a).toNatClampNeg = a := nI_clamp (by have := xa2.1; omega)
      refine zr_aload_n hE eX12_throwsNew_37 rfl ?_
      refine zr_iload hE eX12_throwsNew_38 rfl ?_
      refine zr_iload_n hE eX12_throwsNew_40 rfl ?_
      refine zr_callV2 hE eX12_throwsNew_41 lX12_162 zs57 rfl rfl (by decide) (Nat.le_of_ble_eq_true rfl) (c_X12_liesNow (vpn xb.1 (by decide)) (vpn xa2.1 (by decide)) (by rw [xe1]; exact hk b xb.1 (hsub b xb.2)) (by rw [xe2]; exact hk a xa2.1 xa2.2) ?_)
      refine zr_bne hE eX12_throwsNew_44 (tgt := 63) (by decide) (fun zc44 => ?_) (fun zc44 => ?_)
      · refine zr_iload hE eX12_throwsNew_63 rfl ?_
        refine zr_istore_n hE eX12_throwsNew_65 (by decide) rfl ?_
        refine zr_iload_n hE eX12_throwsNew_66 rfl ?_
        refine zr_iconst hE eX12_throwsNew_67 (v := 1) (by decide) ?_
        refine zr_iload hE eX12_throwsNew_68 rfl ?_
        refine zr_ishl hE eX12_throwsNew_70 ?_
        show G _ _ (.int ((1 : Int32) <<< (nI b &&& 31)) :: _) _
        rw [nb_sh1 b (by have := xb.1; omega)]
        refine zr_iconst hE eX12_throwsNew_71 (v := -1) (by decide) ?_
        refine zr_ixor hE eX12_throwsNew_72 ?_
        refine zr_iand hE eX12_throwsNew_73 ?_
        show G _ _ (.int (nI left &&& (nI (2 ^ b) ^^^ (-1))) :: _) _
        rw [nb_dif]
        refine zr_istore_n hE eX12_throwsNew_74 (by decide) rfl ?_
        refine zr_goto hE eX12_throwsNew_75 (tgt := 22) (by decide) ?_
        rw [xe1, xe2] at zc44
        refine zr_mask hE [true, true, true, true, false] ?_
        refine ih (nDif left (2 ^ b)) (some b) _ (by have := nDif_lt hl xb.2; omega) (by have := nDif_lt hl xb.2; omega) (fun i q => hsub i (nDif_sub hl q)) (fun a q => by cases q; exact ⟨xb.1, hsub b xb.2⟩) ?_
        rw [← hr, tmF, if_neg hl0, hob]
        simp only [zc44, if_true]
      · refine zr_aload_n hE eX12_throwsNew_47 rfl ?_
        refine zr_iload hE eX12_throwsNew_48 rfl ?_
        refine zr_iload_n hE eX12_throwsNew_50 rfl ?_
        refine zr_callV2 hE eX12_throwsNew_51 lX12_196 zs57 rfl rfl (by decide) (Nat.le_of_ble_eq_true rfl) (c_X12_canBeBetween (vpn xb.1 (by decide)) (vpn xa2.1 (by decide)) (by rw [xe1]; exact hk b xb.1 (hsub b xb.2)) (by rw [xe2]; exact hk a xa2.1 xa2.2) ?_)
        refine zr_bne hE eX12_throwsNew_54 (tgt := 60) (by decide) (fun zc54 => ?_) (fun zc54 => ?_)
        · refine zr_iinc hE eX12_throwsNew_60 rfl rfl (by decide) rfl ?_
          refine zr_iload hE eX12_throwsNew_63 rfl ?_
          refine zr_istore_n hE eX12_throwsNew_65 (by decide) rfl ?_
          refine zr_iload_n hE eX12_throwsNew_66 rfl ?_
          refine zr_iconst hE eX12_throwsNew_67 (v := 1) (by decide) ?_
          refine zr_iload hE eX12_throwsNew_68 rfl ?_
          refine zr_ishl hE eX12_throwsNew_70 ?_
          show G _ _ (.int ((1 : Int32) <<< (nI b &&& 31)) :: _) _
          rw [nb_sh1 b (by have := xb.1; omega)]
          refine zr_iconst hE eX12_throwsNew_71 (v := -1) (by decide) ?_
          refine zr_ixor hE eX12_throwsNew_72 ?_
          refine zr_iand hE eX12_throwsNew_73 ?_
          show G _ _ (.int (nI left &&& (nI (2 ^ b) ^^^ (-1))) :: _) _
          rw [nb_dif]
          refine zr_istore_n hE eX12_throwsNew_74 (by decide) rfl ?_
          refine zr_goto hE eX12_throwsNew_75 (tgt := 22) (by decide) ?_
          rw [xe1, xe2] at zc44 zc54
          refine zr_mask hE [true, true, true, true, false] ?_
          refine ih (nDif left (2 ^ b)) (some b) _ (by have := nDif_lt hl xb.2; omega) (by have := nDif_lt hl xb.2; omega) (fun i q => hsub i (nDif_sub hl q)) (fun a q => by cases q; exact ⟨xb.1, hsub b xb.2⟩) ?_
          rw [← hr, tmF, if_neg hl0, hob]
          simp only [zc44, zc54, Bool.false_eq_true, if_false, if_true]
          try rfl
        · refine zr_bipush hE eX12_throwsNew_57 (v := -4) (by decide) ?_
          refine hR.2.1 _ _ _ _ _ _ eX12_throwsNew_59 rfl rfl ?_
          rw [xe1, xe2] at zc44 zc54
          rw [tmF, if_neg hl0, hob] at hr
          simp only [zc44, zc54] at hr
          rw [if_neg (by decide), if_neg (by decide)] at hr
          rw [← hr] at hQ
          exact hQ
set_option maxHeartbeats 4000000 in
theorem c_X12_throwsNew {c : Nat} {w : ww} {Q : Option Value → ww → Prop} (hM : Mow w c) (hQ1 : c = 0 → Q (some (.int (-4))) w) (hQ2 : 0 < c → Q (some (.int (tmR (mB w) (w 58 1) c))) w) : Ct mX12_throwsNew 7 [.ref 57] w Q := by
  refine Ct.of (by decide) (Nat.le_of_ble_eq_true rfl) (fun _ => Nat.le_of_ble_eq_true rfl) (fun G hR => ?_)
  have hE := hR.1
  refine zr_aload_n hE eX12_throwsNew_0 rfl ?_
  refine zr_getR hE eX12_throwsNew_1 fX12_9 zs57 rfl ?_
  refine zr_iconst hE eX12_throwsNew_4 (v := 0) (by decide) ?_
  refine zr_ialdv hE eX12_throwsNew_5 zs58 (by unfold vp_in; decide) hM.2.1 ?_
  refine zr_if_ne hE eX12_throwsNew_6 (tgt := 12) (by decide) (fun zc6 => ?_) (fun zc6 => ?_)
  · refine zr_iconst hE eX12_throwsNew_12 (v := 0) (by decide) ?_
    refine zr_istore_n hE eX12_throwsNew_13 (by decide) rfl ?_
    refine zr_aload_n hE eX12_throwsNew_14 rfl ?_
    refine zr_callV0 hE eX12_throwsNew_15 lX12_59 zs57 rfl rfl (by decide) (Nat.le_of_ble_eq_true rfl) (c_X12_everything ?_)
    rw [hM.2.1, nb_all c (by have := hM.1; omega)]
    refine zr_istore_n hE eX12_throwsNew_18 (by decide) rfl ?_
    refine zr_bipush hE eX12_throwsNew_19 (v := -4) (by decide) ?_
    refine zr_istore_n hE eX12_throwsNew_21 (by decide) rfl ?_
    have xc0 : 0 < c := Nat.pos_of_ne_zero (fun q => zc6 (by rw [q]; rfl))
    have hp : 2 ^ c ≤ 2 ^ 9 := Nat.pow_le_pow_right (by decide) hM.1
    have hp0 : 0 < 2 ^ c := Nat.pow_pos (by decide)
    exact tw_lp (s := 2 ^ c - 1) (hM.ks (by omega)) hR (hQ2 xc0) (2 ^ c - 1) (2 ^ c - 1) none 0 (Nat.le_refl _) (by omega) (fun _ q => q) (fun a q => by cases q) rfl
  · refine zr_bipush hE eX12_throwsNew_9 (v := -4) (by decide) ?_
    refine hR.2.1 _ _ _ _ _ _ eX12_throwsNew_11 rfl rfl ?_
    exact hQ1 ((nI_0i (by have := hM.1; omega)).mp zc6)

