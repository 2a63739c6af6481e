/-! bitCount; the longest nest; bowls apart; costs. -/
def pcI (x : Int32) : Int32 :=
  let a := x - ((x.toUInt32 >>> ((1 : Int32).toUInt32 &&& Int32.toUInt32 31)).toInt32 &&& 1431655765)
  let b := (a &&& 858993459) + ((a.toUInt32 >>> ((2 : Int32).toUInt32 &&& Int32.toUInt32 31)).toInt32 &&& 858993459)
  let c := (b + (b.toUInt32 >>> ((4 : Int32).toUInt32 &&& Int32.toUInt32 31)).toInt32) &&& 252645135
  let d := c + (c.toUInt32 >>> ((8 : Int32).toUInt32 &&& Int32.toUInt32 31)).toInt32
  let e := d + (d.toUInt32 >>> ((16 : Int32).toUInt32 &&& Int32.toUInt32 31)).toInt32
  e &&& 63
theorem pcI_nI : ∀ s, s < 1024 → pcI (nI s) = nI (pop s 10) := by decide +kernel
set_option maxHeartbeats 4000000 in
theorem c_J6_bitCount_0f7a4 {x : Int32} {w : ww} {Q : Option Value → ww → Prop} (hQ : Q (some (.int (pcI x))) w) : Ct mJ6_bitCount_0f7a4 1 [.int x] w Q := by
  refine Ct.of (by decide) (Nat.le_of_ble_eq_true rfl) (fun _ => Nat.le_of_ble_eq_true rfl) (fun G hR => ?_)
  have hE := hR.1
  refine zr_iload_n hE eJ6_bitCount_0f7a4_0 rfl ?_
  refine zr_iload_n hE eJ6_bitCount_0f7a4_1 rfl ?_
  refine zr_iconst hE eJ6_bitCount_0f7a4_2 (v := 1) (by decide) ?_
  refine zr_iushr hE eJ6_bitCount_0f7a4_3 ?_
  refine zr_ldcw hE eJ6_bitCount_0f7a4_4 hJ6_265 ?_
  refine zr_iand hE eJ6_bitCount_0f7a4_7 ?_
  refine zr_isub hE eJ6_bitCount_0f7a4_8 ?_
  refine zr_istore_n hE eJ6_bitCount_0f7a4_9 (by decide) rfl ?_
  refine zr_iload_n hE eJ6_bitCount_0f7a4_10 rfl ?_
  refine zr_ldcw hE eJ6_bitCount_0f7a4_11 hJ6_266 ?_
  refine zr_iand hE eJ6_bitCount_0f7a4_14 ?_
  refine zr_iload_n hE eJ6_bitCount_0f7a4_15 rfl ?_
  refine zr_iconst hE eJ6_bitCount_0f7a4_16 (v := 2) (by decide) ?_
  refine zr_iushr hE eJ6_bitCount_0f7a4_17 ?_
  refine zr_ldcw hE eJ6_bitCount_0f7a4_18 hJ6_266 ?_
  refine zr_iand hE eJ6_bitCount_0f7a4_21 ?_
  refine zr_iadd hE eJ6_bitCount_0f7a4_22 ?_
  refine zr_istore_n hE eJ6_bitCount_0f7a4_23 (by decide) rfl ?_
  refine zr_iload_n hE eJ6_bitCount_0f7a4_24 rfl ?_
  refine zr_iload_n hE eJ6_bitCount_0f7a4_25 rfl ?_
  refine zr_iconst hE eJ6_bitCount_0f7a4_26 (v := 4) (by decide) ?_
  refine zr_iushr hE eJ6_bitCount_0f7a4_27 ?_
  refine zr_iadd hE eJ6_bitCount_0f7a4_28 ?_
  refine zr_ldcw hE eJ6_bitCount_0f7a4_29 hJ6_267 ?_
  refine zr_iand hE eJ6_bitCount_0f7a4_32 ?_
  refine zr_istore_n hE eJ6_bitCount_0f7a4_33 (by decide) rfl ?_
  refine zr_iload_n hE eJ6_bitCount_0f7a4_34 rfl ?_
  refine zr_iload_n hE eJ6_bitCount_0f7a4_35 rfl ?_
  refine zr_bipush hE eJ6_bitCount_0f7a4_36 (v := 8) (by decide) ?_
  refine zr_iushr hE eJ6_bitCount_0f7a4_38 ?_
  refine zr_iadd hE eJ6_bitCount_0f7a4_39 ?_
  refine zr_istore_n hE eJ6_bitCount_0f7a4_40 (by decide) rfl ?_
  refine zr_iload_n hE eJ6_bitCount_0f7a4_41 rfl ?_
  refine zr_iload_n hE eJ6_bitCount_0f7a4_42 rfl ?_
  refine zr_bipush hE eJ6_bitCount_0f7a4_43 (v := 16) (by decide) ?_
  refine zr_iushr hE eJ6_bitCount_0f7a4_45 ?_
  refine zr_iadd hE eJ6_bitCount_0f7a4_46 ?_
  refine zr_istore_n hE eJ6_bitCount_0f7a4_47 (by decide) rfl ?_
  refine zr_iload_n hE eJ6_bitCount_0f7a4_48 rfl ?_
  refine zr_bipush hE eJ6_bitCount_0f7a4_49 (v := 63) (by decide) ?_
  refine zr_iand hE eJ6_bitCount_0f7a4_51 ?_
  refine hR.2.1 _ _ _ _ _ _ eJ6_bitCount_0f7a4_52 rfl rfl ?_
  exact hQ

theorem c_bc {s : Nat} {w : ww} {Q : Option Value → ww → Prop} (hs : s < 1024) (hQ : Q (some (.int (nI (pop s 10)))) w) : Ct mJ6_bitCount_0f7a4 1 [.int (nI s)] w Q := c_J6_bitCount_0f7a4 (by rw [pcI_nI s hs]; exact hQ)
theorem pop_sub0 : ∀ a, a < 11 → ∀ b, b < 11 → (nI a - nI b = 0 ↔ a = b) := by decide +kernel
theorem pop_subp : ∀ a, a < 11 → ∀ b, b < 11 → (0 < nI a - nI b ↔ b < a) := by decide +kernel
def lgr (H : Nat → Int32) (s t : Nat) : Bool := if pop s 10 = pop t 10 then (if H s = H t then decide (s < t) else decide (H s < H t)) else decide (pop t 10 < pop s 10)
set_option maxHeartbeats 4000000 in
theorem c_X7_isLonger {s t : Nat} {w : ww} {Q : Option Value → ww → Prop} (hs : s < 512) (ht : t < 512) (hQ : Q (some (.int (bi (lgr (w 32) s t)))) w) : Ct mX7_isLonger 2 [.ref 31, .int (nI s), .int (nI t)] w Q := by
  refine Ct.of (by decide) (Nat.le_of_ble_eq_true rfl) (fun _ => Nat.le_of_ble_eq_true rfl) (fun G hR => ?_)
  have hE := hR.1
  refine zr_iload_n hE eX7_isLonger_0 rfl ?_
  refine zr_callS1 hE eX7_isLonger_1 lX7_89 (by decide) (Nat.le_of_ble_eq_true rfl) (c_bc (show s < 1024 by omega) ?_)
  refine zr_iload_n hE eX7_isLonger_4 rfl ?_
  refine zr_callS1 hE eX7_isLonger_5 lX7_89 (by decide) (Nat.le_of_ble_eq_true rfl) (c_bc (show t < 1024 by omega) ?_)
  refine zr_isub hE eX7_isLonger_8 ?_
  refine zr_istore_n hE eX7_isLonger_9 (by decide) rfl ?_
  refine zr_iload_n hE eX7_isLonger_10 rfl ?_
  refine zr_if_eq hE eX7_isLonger_11 (tgt := 24) (by decide) (fun zc11 => ?_) (fun zc11 => ?_)
  · refine zr_aload_n hE eX7_isLonger_24 rfl ?_
    refine zr_getR hE eX7_isLonger_25 fX7_9 zs31 rfl ?_
    refine zr_iload_n hE eX7_isLonger_28 rfl ?_
    refine zr_iald hE eX7_isLonger_29 zs32 (by first | exact vpn hs (by decide) | exact vpn ht (by decide)) ?_
    refine zr_aload_n hE eX7_isLonger_30 rfl ?_
    refine zr_getR hE eX7_isLonger_31 fX7_9 zs31 rfl ?_
    refine zr_iload_n hE eX7_isLonger_34 rfl ?_
    refine zr_iald hE eX7_isLonger_35 zs32 (by first | exact vpn hs (by decide) | exact vpn ht (by decide)) ?_
    simp only [nI_clamp (show s < 2 ^ 31 by omega), nI_clamp (show t < 2 ^ 31 by omega)]
    refine zr_icmp_eq hE eX7_isLonger_36 (tgt := 60) (by decide) (fun zc36 => ?_) (fun zc36 => ?_)
    · refine zr_iload_n hE eX7_isLonger_60 rfl ?_
      refine zr_iload_n hE eX7_isLonger_61 rfl ?_
      refine zr_kicmp_ge hE eX7_isLonger_62 (tgt := 69) (by decide) (fun zc62 zd62 => ?_) (fun zc62 zd62 => ?_)
      · refine zr_iconst hE eX7_isLonger_69 (v := 0) (by decide) ?_
        refine hR.2.1 _ _ _ _ _ _ eX7_isLonger_70 rfl rfl ?_
        exact zq hQ (zb0 (by have hp1 := pop_le s 10; have hp2 := pop_le t 10; rw [pop_sub0 _ (by omega) _ (by omega)] at zc11; (try rw [pop_subp _ (by omega) _ (by omega)] at zc15); (try rw [nI_ltI (by omega) (by omega)] at zc62); simp only [lgr]; clear hQ hR hE; (try clear zd15); (try clear zd62); simp_all [-Int32.not_lt, -Nat.not_lt]))
      · refine zr_iconst hE eX7_isLonger_65 (v := 1) (by decide) ?_
        refine zr_goto hE eX7_isLonger_66 (tgt := 70) (by decide) ?_
        refine hR.2.1 _ _ _ _ _ _ eX7_isLonger_70 rfl rfl ?_
        exact zq hQ (zb1 (by have hp1 := pop_le s 10; have hp2 := pop_le t 10; rw [pop_sub0 _ (by omega) _ (by omega)] at zc11; (try rw [pop_subp _ (by omega) _ (by omega)] at zc15); (try rw [nI_ltI (by omega) (by omega)] at zc62); simp only [lgr]; clear hQ hR hE; (try clear zd15); (try clear zd62); simp_all [-Int32.not_lt, -Nat.not_lt]))
    · refine zr_aload_n hE eX7_isLonger_39 rfl ?_
      refine zr_getR hE eX7_isLonger_40 fX7_9 zs31 rfl ?_
      refine zr_iload_n hE eX7_isLonger_43 rfl ?_
      refine zr_iald hE eX7_isLonger_44 zs32 (by first | exact vpn hs (by decide) | exact vpn ht (by decide)) ?_
      refine zr_aload_n hE eX7_isLonger_45 rfl ?_
      refine zr_getR hE eX7_isLonger_46 fX7_9 zs31 rfl ?_
      refine zr_iload_n hE eX7_isLonger_49 rfl ?_
      refine zr_iald hE eX7_isLonger_50 zs32 (by first | exact vpn hs (by decide) | exact vpn ht (by decide)) ?_
      simp only [nI_clamp (show s < 2 ^ 31 by omega), nI_clamp (show t < 2 ^ 31 by omega)]
      refine zr_kicmp_ge hE eX7_isLonger_51 (tgt := 58) (by decide) (fun zc51 zd51 => ?_) (fun zc51 zd51 => ?_)
      · refine zr_iconst hE eX7_isLonger_58 (v := 0) (by decide) ?_
        refine hR.2.1 _ _ _ _ _ _ eX7_isLonger_59 rfl rfl ?_
        exact zq hQ (zb0 (by have hp1 := pop_le s 10; have hp2 := pop_le t 10; rw [pop_sub0 _ (by omega) _ (by omega)] at zc11; (try rw [pop_subp _ (by omega) _ (by omega)] at zc15); (try rw [nI_ltI (by omega) (by omega)] at zc62); simp only [lgr]; clear hQ hR hE; (try clear zd15); (try clear zd62); simp_all [-Int32.not_lt, -Nat.not_lt]))
      · refine zr_iconst hE eX7_isLonger_54 (v := 1) (by decide) ?_
        refine zr_goto hE eX7_isLonger_55 (tgt := 59) (by decide) ?_
        refine hR.2.1 _ _ _ _ _ _ eX7_isLonger_59 rfl rfl ?_
        exact zq hQ (zb1 (by have hp1 := pop_le s 10; have hp2 := pop_le t 10; rw [pop_sub0 _ (by omega) _ (by omega)] at zc11; (try rw [pop_subp _ (by omega) _ (by omega)] at zc15); (try rw [nI_ltI (by omega) (by omega)] at zc62); simp only [lgr]; clear hQ hR hE; (try clear zd15); (try clear zd62); simp_all [-Int32.not_lt, -Nat.not_lt]))
  · refine zr_iload_n hE eX7_isLonger_14 rfl ?_
    refine zr_kif_le hE eX7_isLonger_15 (tgt := 22) (by decide) (fun zc15 zd15 => ?_) (fun zc15 zd15 => ?_)
    · refine zr_iconst hE eX7_isLonger_22 (v := 0) (by decide) ?_
      refine hR.2.1 _ _ _ _ _ _ eX7_isLonger_23 rfl rfl ?_
      exact zq hQ (zb0 (by have hp1 := pop_le s 10; have hp2 := pop_le t 10; rw [pop_sub0 _ (by omega) _ (by omega)] at zc11; (try rw [pop_subp _ (by omega) _ (by omega)] at zc15); (try rw [nI_ltI (by omega) (by omega)] at zc62); simp only [lgr]; clear hQ hR hE; (try clear zd15); (try clear zd62); simp_all [-Int32.not_lt, -Nat.not_lt]))
    · refine zr_iconst hE eX7_isLonger_18 (v := 1) (by decide) ?_
      refine zr_goto hE eX7_isLonger_19 (tgt := 23) (by decide) ?_
      refine hR.2.1 _ _ _ _ _ _ eX7_isLonger_23 rfl rfl ?_
      exact zq hQ (zb1 (by have hp1 := pop_le s 10; have hp2 := pop_le t 10; rw [pop_sub0 _ (by omega) _ (by omega)] at zc11; (try rw [pop_subp _ (by omega) _ (by omega)] at zc15); (try rw [nI_ltI (by omega) (by omega)] at zc62); simp only [lgr]; clear hQ hR hE; (try clear zd15); (try clear zd62); simp_all [-Int32.not_lt, -Nat.not_lt]))

def lgF (H : Nat → Int32) (t : Nat) : List Nat → Nat → Nat
  | [], best => best
  | s :: l, best => lgF H t l (if nDif s t = 0 ∧ lgr H s best = true then s else best)
theorem nI_0i {n : Nat} (h : n < 2 ^ 31) : nI n = 0 ↔ n = 0 := nI_eq (b := 0) h (by decide)
theorem Rep.fst {w : ww} {F : List zE3} (h : Rep w F) {i : Nat} (hi : i < F.length) : w 34 i = nI ((F.map (·.1)).getD i 0) := by
  rw [h.2.1 i hi, List.getD_eq_getElem?_getD, List.getD_eq_getElem?_getD, List.getElem?_map, List.getElem?_eq_getElem hi]; rfl
set_option maxHeartbeats 4000000 in
theorem c_X7_longestOf {t : Nat} {F : List zE3} {w : ww} {Q : Option Value → ww → Prop} (ht : t < 512) (hF : Rep w F) (hl : F.length ≤ 511) (hs : ∀ e ∈ F, e.1 < 512) (hQ : Q (some (.int (nI (lgF (w 32) t (F.map (·.1)) 0)))) w) : Ct mX7_longestOf 3 [.ref 31, .int (nI t)] w Q := by
  refine Ct.of (by decide) (Nat.le_of_ble_eq_true rfl) (fun _ => Nat.le_of_ble_eq_true rfl) (fun G hR => ?_)
  have hE := hR.1
  generalize hr0 : lgF (w 32) t (F.map (·.1)) 0 = r at hQ
  have hfst := fun i hi => Rep.fst hF (i := i) hi
  have hsm : ∀ s ∈ F.map (·.1), s < 512 := fun s h => by obtain ⟨e, he, rfl⟩ := List.mem_map.mp h; exact hs e he
  have hLl : (F.map (·.1)).length = F.length := List.length_map _
  generalize F.map (·.1) = L at hr0 hfst hsm hLl
  have loop : ∀ (k i best : Nat), i ≤ F.length → F.length - i = k → best < 512 → lgF (w 32) t (L.drop i) best = r → G 4 [some (.ref 31), some (.int (nI t)), some (.int (nI best)), some (.int (nI i)), none] [] w := by
    intro k
    induction k with
    | zero =>
      intro i best h1 h2 hb hr
      refine zr_iload_n hE eX7_longestOf_4 rfl ?_
      refine zr_aload_n hE eX7_longestOf_5 rfl ?_
      refine zr_getI hE eX7_longestOf_6 fX7_54 zs31 rfl ?_
      rw [hF.1]
      refine zr_kicmp_ge hE eX7_longestOf_9 (tgt := 48) (by decide) (fun zc9 zd9 => ?_) (fun zc9 zd9 => absurd zc9 (by rw [nI_ltI (by omega) (by omega)]; omega))
      refine zr_iload_n hE eX7_longestOf_48 rfl ?_
      refine hR.2.1 _ _ _ _ _ _ eX7_longestOf_49 rfl rfl ?_
      rw [List.drop_eq_nil_of_le (by omega), lgF] at hr
      rw [hr]
      exact hQ
    | succ k ih =>
      intro i best h1 h2 hb hr
      have hi0 : i < F.length := by omega
      have hiL : i < L.length := by omega
      have hfi := hfst i hi0
      have hs9 : L.getD i 0 < 512 := by
        rw [List.getD_eq_getElem?_getD, List.getElem?_eq_getElem hiL]
        exact hsm _ (List.getElem_mem _)
      obtain ⟨s, hse⟩ : ∃ s, L.getD i 0 = s := ⟨_, rfl⟩
      rw [hse] at hfi hs9
      refine zr_iload_n hE eX7_longestOf_4 rfl ?_
      refine zr_aload_n hE eX7_longestOf_5 rfl ?_
      refine zr_getI hE eX7_longestOf_6 fX7_54 zs31 rfl ?_
      rw [hF.1]
      refine zr_kicmp_ge hE eX7_longestOf_9 (tgt := 48) (by decide) (fun zc9 zd9 => absurd ((nI_ltI (by omega) (by omega)).mpr hi0) zc9) (fun zc9 zd9 => ?_)
      refine zr_aload_n hE eX7_longestOf_12 rfl ?_
      refine zr_getR hE eX7_longestOf_13 fX7_18 zs31 rfl ?_
      refine zr_iload_n hE eX7_longestOf_16 rfl ?_
      refine zr_iald hE eX7_longestOf_17 zs34 (vpn (show i < 512 by omega) (by decide)) ?_
      simp only [nI_clamp (show i < 2 ^ 31 by omega), hfi]
      refine zr_istore hE eX7_longestOf_18 (by decide) rfl ?_
      refine zr_iload hE eX7_longestOf_20 rfl ?_
      refine zr_iload_n hE eX7_longestOf_22 rfl ?_
      refine zr_iconst hE eX7_longestOf_23 (v := -1) (by decide) ?_
      refine zr_ixor hE eX7_longestOf_24 ?_
      refine zr_iand hE eX7_longestOf_25 ?_
      rw [nb_dif]
      refine zr_if_ne hE eX7_longestOf_26 (tgt := 42) (by decide) (fun zc26 => ?_) (fun zc26 => ?_)
      · refine zr_iincN hE eX7_longestOf_42 rfl (by decide) rfl ?_
        refine zr_goto hE eX7_longestOf_45 (tgt := 4) (by decide) ?_
        refine zr_mask hE [true, true, true, true, false] ?_
        have q : ¬ nDif s t = 0 := fun e => zc26 (by rw [e]; rfl)
        refine ih (i + 1) best (by omega) (by omega) hb ?_
        rw [← hr, drop_cons hiL, hse, lgF, if_neg (fun e => q e.1)]
      · refine zr_aload_n hE eX7_longestOf_29 rfl ?_
        refine zr_iload hE eX7_longestOf_30 rfl ?_
        refine zr_iload_n hE eX7_longestOf_32 rfl ?_
        refine zr_callV2 hE eX7_longestOf_33 lX7_85 zs31 rfl rfl (by decide) (Nat.le_of_ble_eq_true rfl) (c_X7_isLonger hs9 hb ?_)
        refine zr_beq hE eX7_longestOf_36 (tgt := 42) (by decide) (fun zc36 => ?_) (fun zc36 => ?_)
        · refine zr_iincN hE eX7_longestOf_42 rfl (by decide) rfl ?_
          refine zr_goto hE eX7_longestOf_45 (tgt := 4) (by decide) ?_
          refine zr_mask hE [true, true, true, true, false] ?_
          refine ih (i + 1) best (by omega) (by omega) hb ?_
          rw [← hr, drop_cons hiL, hse, lgF, if_neg (fun e => by rw [zc36] at e; exact absurd e.2 (by decide))]
        · refine zr_iload hE eX7_longestOf_39 rfl ?_
          refine zr_istore_n hE eX7_longestOf_41 (by decide) rfl ?_
          refine zr_iincN hE eX7_longestOf_42 rfl (by decide) rfl ?_
          refine zr_goto hE eX7_longestOf_45 (tgt := 4) (by decide) ?_
          refine zr_mask hE [true, true, true, true, false] ?_
          have q : nDif s t = 0 := (nI_0i (Nat.lt_of_le_of_lt (nDif_le s t) (by omega))).mp zc26
          refine ih (i + 1) s (by omega) (by omega) hs9 ?_
          rw [← hr, drop_cons hiL, hse, lgF, if_pos ⟨q, zc36⟩]
  refine zr_iconst hE eX7_longestOf_0 (v := 0) (by decide) ?_
  refine zr_istore_n hE eX7_longestOf_1 (by decide) rfl ?_
  refine zr_iconst hE eX7_longestOf_2 (v := 0) (by decide) ?_
  refine zr_istore_n hE eX7_longestOf_3 (by decide) rfl ?_
  exact loop F.length 0 0 (Nat.zero_le _) rfl (by decide) hr0
def apB (A : Nat → Int32) (s : Nat) : Nat → Bool
  | 0 => true
  | n + 1 => apB A s n && !(s.testBit n && !decide (A n &&& nI s = 0))
def apF (A : Nat → Int32) (c : Nat) : Nat → Nat → Nat → Nat
  | 0, _, best => best
  | k + 1, s, best => apF A c k (s + 1) (if pop best 10 < pop s 10 ∧ apB A s c = true then s else best)
theorem apB_f {A : Nat → Int32} {s j : Nat} (hj : s.testBit j = true) (ha : ¬ A j &&& nI s = 0) : ∀ c, j < c → apB A s c = false
  | 0, h => by omega
  | n + 1, h => by
    rw [apB]
    by_cases q : j = n
    · subst q; simp [hj, ha]
    · rw [apB_f hj ha n (by omega)]; rfl
set_option maxHeartbeats 4000000 in
theorem c_X7_isApart {s c : Nat} {w : ww} {Q : Option Value → ww → Prop} (hs : s < 1024) (hc : c ≤ 9) (h9 : w 31 9 = nI c) (hQ : Q (some (.int (bi (apB (w 37) s c)))) w) : Ct mX7_isApart 1 [.ref 31, .int (nI s)] w Q := by
  refine Ct.of (by decide) (Nat.le_of_ble_eq_true rfl) (fun _ => Nat.le_of_ble_eq_true rfl) (fun G hR => ?_)
  have hE := hR.1
  have loop : ∀ (k j : Nat), j ≤ c → c - j = k → apB (w 37) s j = true → G 2 [some (.ref 31), some (.int (nI s)), some (.int (nI j))] [] w := by
    intro k
    induction k with
    | zero =>
      intro j h1 h2 hap
      have hjc : j = c := by omega
      subst hjc
      refine zr_iload_n hE eX7_isApart_2 rfl ?_
      refine zr_aload_n hE eX7_isApart_3 rfl ?_
      refine zr_getI hE eX7_isApart_4 fX7_48 zs31 rfl ?_
      rw [h9]
      refine zr_kicmp_ge hE eX7_isApart_7 (tgt := 38) (by decide) (fun zc7 zd7 => ?_) (fun zc7 zd7 => absurd zc7 (by rw [nI_ltI (by omega) (by omega)]; omega))
      refine zr_iconst hE eX7_isApart_38 (v := 1) (by decide) ?_
      refine hR.2.1 _ _ _ _ _ _ eX7_isApart_39 rfl rfl ?_
      exact zq hQ (zb1 hap)
    | succ k ih =>
      intro j h1 h2 hap
      have hj0 : j < c := by omega
      refine zr_iload_n hE eX7_isApart_2 rfl ?_
      refine zr_aload_n hE eX7_isApart_3 rfl ?_
      refine zr_getI hE eX7_isApart_4 fX7_48 zs31 rfl ?_
      rw [h9]
      refine zr_kicmp_ge hE eX7_isApart_7 (tgt := 38) (by decide) (fun zc7 zd7 => absurd ((nI_ltI (by omega) (by omega)).mpr hj0) zc7) (fun zc7 zd7 => ?_)
      refine zr_iload_n hE eX7_isApart_10 rfl ?_
      refine zr_iload_n hE eX7_isApart_11 rfl ?_
      refine zr_ishr hE eX7_isApart_12 ?_
      refine zr_iconst hE eX7_isApart_13 (v := 1) (by decide) ?_
      refine zr_iand hE eX7_isApart_14 ?_
      refine zr_iconst hE eX7_isApart_15 (v := 1) (by decide) ?_
      refine zr_icmp_ne hE eX7_isApart_16 (tgt := 32) (by decide) (fun zc16 => ?_) (fun zc16 => ?_)
      · refine zr_iincN hE eX7_isApart_32 rfl (by decide) rfl ?_
        refine zr_goto hE eX7_isApart_35 (tgt := 2) (by decide) ?_
        have q1 : s.testBit j = false := by rw [← iBit_nI hs (by omega)]; exact decide_eq_false zc16
        exact ih (j + 1) (by omega) (by omega) (by rw [apB, hap, q1]; rfl)
      · refine zr_aload_n hE eX7_isApart_19 rfl ?_
        refine zr_getR hE eX7_isApart_20 fX7_27 zs31 rfl ?_
        refine zr_iload_n hE eX7_isApart_23 rfl ?_
        refine zr_iald hE eX7_isApart_24 zs37 (vpn (show j < 9 by omega) (by decide)) ?_
        refine zr_iload_n hE eX7_isApart_25 rfl ?_
        refine zr_iand hE eX7_isApart_26 ?_
        simp only [nI_clamp (show j < 2 ^ 31 by omega)]
        refine zr_if_eq hE eX7_isApart_27 (tgt := 32) (by decide) (fun zc27 => ?_) (fun zc27 => ?_)
        · refine zr_iincN hE eX7_isApart_32 rfl (by decide) rfl ?_
          refine zr_goto hE eX7_isApart_35 (tgt := 2) (by decide) ?_
          exact ih (j + 1) (by omega) (by omega) (by rw [apB, hap, zc27]; simp)
        · refine zr_iconst hE eX7_isApart_30 (v := 0) (by decide) ?_
          refine hR.2.1 _ _ _ _ _ _ eX7_isApart_31 rfl rfl ?_
          have q1 : s.testBit j = true := by rw [← iBit_nI hs (by omega)]; exact decide_eq_true zc16
          exact zq hQ (zb0 (apB_f q1 zc27 c hj0))
  refine zr_iconst hE eX7_isApart_0 (v := 0) (by decide) ?_
  refine zr_istore_n hE eX7_isApart_1 (by decide) rfl ?_
  exact loop c 0 (Nat.zero_le _) rfl rfl
set_option maxHeartbeats 4000000 in
theorem c_X7_mostApart {c n : Nat} {w : ww} {Q : Option Value → ww → Prop} (hc : c ≤ 9) (h9 : w 31 9 = nI c) (hn : n < 512) (h10 : w 31 10 = nI n) (hQ : Q (some (.int (nI (apF (w 37) c n 1 0)))) w) : Ct mX7_mostApart 2 [.ref 31] w Q := by
  refine Ct.of (by decide) (Nat.le_of_ble_eq_true rfl) (fun _ => Nat.le_of_ble_eq_true rfl) (fun G hR => ?_)
  have hE := hR.1
  generalize hr0 : apF (w 37) c n 1 0 = r at hQ
  have loop : ∀ (k s best : Nat), s ≤ n + 1 → n + 1 - s = k → best < 512 → apF (w 37) c k s best = r → G 4 [some (.ref 31), some (.int (nI best)), some (.int (nI s))] [] w := by
    intro k
    induction k with
    | zero =>
      intro s best h1 h2 hb hr
      refine zr_iload_n hE eX7_mostApart_4 rfl ?_
      refine zr_aload_n hE eX7_mostApart_5 rfl ?_
      refine zr_getI hE eX7_mostApart_6 fX7_51 zs31 rfl ?_
      rw [h10]
      refine zr_kicmp_gt hE eX7_mostApart_9 (tgt := 39) (by decide) (fun zc9 zd9 => ?_) (fun zc9 zd9 => absurd zc9 (by rw [nI_leI (by omega) (by omega)]; omega))
      refine zr_iload_n hE eX7_mostApart_39 rfl ?_
      refine hR.2.1 _ _ _ _ _ _ eX7_mostApart_40 rfl rfl ?_
      rw [apF] at hr
      rw [hr]
      exact hQ
    | succ k ih =>
      intro s best h1 h2 hb hr
      have hp1 := pop_le s 10
      have hp2 := pop_le best 10
      refine zr_iload_n hE eX7_mostApart_4 rfl ?_
      refine zr_aload_n hE eX7_mostApart_5 rfl ?_
      refine zr_getI hE eX7_mostApart_6 fX7_51 zs31 rfl ?_
      rw [h10]
      refine zr_kicmp_gt hE eX7_mostApart_9 (tgt := 39) (by decide) (fun zc9 zd9 => absurd ((nI_leI (by omega) (by omega)).mpr (by omega)) zc9) (fun zc9 zd9 => ?_)
      refine zr_iload_n hE eX7_mostApart_12 rfl ?_
      refine zr_callS1 hE eX7_mostApart_13 lX7_89 (by decide) (Nat.le_of_ble_eq_true rfl) (c_bc (show s < 1024 by omega) ?_)
      refine zr_iload_n hE eX7_mostApart_16 rfl ?_
      refine zr_callS1 hE eX7_mostApart_17 lX7_89 (by decide) (Nat.le_of_ble_eq_true rfl) (c_bc (show best < 1024 by omega) ?_)
      refine zr_kicmp_le hE eX7_mostApart_20 (tgt := 33) (by decide) (fun zc20 zd20 => ?_) (fun zc20 zd20 => ?_)
      · refine zr_iincN hE eX7_mostApart_33 rfl (by decide) rfl ?_
        refine zr_goto hE eX7_mostApart_36 (tgt := 4) (by decide) ?_
        have q : ¬ pop best 10 < pop s 10 := fun e => zc20 ((nI_ltI (by omega) (by omega)).mpr e)
        exact ih (s + 1) best (by omega) (by omega) hb (by rw [← hr, apF, if_neg (fun e => q e.1)])
      · refine zr_aload_n hE eX7_mostApart_23 rfl ?_
        refine zr_iload_n hE eX7_mostApart_24 rfl ?_
        refine zr_callV1 hE eX7_mostApart_25 lX7_94 zs31 rfl rfl (by decide) (Nat.le_of_ble_eq_true rfl) (c_X7_isApart (show s < 1024 by omega) hc h9 ?_)
        refine zr_beq hE eX7_mostApart_28 (tgt := 33) (by decide) (fun zc28 => ?_) (fun zc28 => ?_)
        · refine zr_iincN hE eX7_mostApart_33 rfl (by decide) rfl ?_
          refine zr_goto hE eX7_mostApart_36 (tgt := 4) (by decide) ?_
          exact ih (s + 1) best (by omega) (by omega) hb (by rw [← hr, apF, if_neg (fun e => by rw [zc28] at e; exact absurd e.2 (by decide))])
        · refine zr_iload_n hE eX7_mostApart_31 rfl ?_
          refine zr_istore_n hE eX7_mostApart_32 (by decide) rfl ?_
          refine zr_iincN hE eX7_mostApart_33 rfl (by decide) rfl ?_
          refine zr_goto hE eX7_mostApart_36 (tgt := 4) (by decide) ?_
          have q : pop best 10 < pop s 10 := (nI_ltI (by omega) (by omega)).mp zc20
          exact ih (s + 1) s (by omega) (by omega) (by omega) (by rw [← hr, apF, if_pos ⟨q, zc28⟩])
  refine zr_iconst hE eX7_mostApart_0 (v := 0) (by decide) ?_
  refine zr_istore_n hE eX7_mostApart_1 (by decide) rfl ?_
  refine zr_iconst hE eX7_mostApart_2 (v := 1) (by decide) ?_
  refine zr_istore_n hE eX7_mostApart_3 (by decide) rfl ?_
  exact loop n 1 0 (by omega) (by omega) (by decide) hr0
def co1 (H : Nat → Int32) (m : Int32) (s : Nat) : Int32 := if 0 < H s ∧ H s ≤ m then 1 else 1000000
def coH (H : Nat → Int32) (s : Nat) : Int32 := if 0 < H s then H s else 1000000
def coW (H : Nat → Int32) (k : Int32) (s : Nat) : Int32 := if nI (pop s 10) = k ∧ 0 < H s then -1 else if pop s 10 = 1 then 0 else 1000000
set_option maxHeartbeats 4000000 in
theorem c_X7_costOneEach {n : Nat} {m : Int32} {w : ww} {Q : Option Value → ww → Prop} (hn : n < 512) (h10 : w 31 10 = nI n) (hQ : ∀ u : ww, (∀ p, p ≠ 35 → u p = w p) → (∀ t, 0 < t → t ≤ n → u 35 t = co1 (w 32) m t) → Q none u) : Ct mX7_costOneEach 2 [.ref 31, .int m] w Q := by
  refine Ct.of (by decide) (Nat.le_of_ble_eq_true rfl) (fun _ => Nat.le_of_ble_eq_true rfl) (fun G hR => ?_)
  have hE := hR.1
  have loop : ∀ (k s : Nat) (u : ww), s ≤ n + 1 → n + 1 - s = k → (∀ p, p ≠ 35 → u p = w p) → (∀ t, 0 < t → t < s → u 35 t = co1 (w 32) m t) → G 2 [some (.ref 31), some (.int m), some (.int (nI s))] [] u := by
    intro k
    induction k with
    | zero =>
      intro s u h1 h2 hof hco
      refine zr_iload_n hE eX7_costOneEach_2 rfl ?_
      refine zr_aload_n hE eX7_costOneEach_3 rfl ?_
      refine zr_getI hE eX7_costOneEach_4 fX7_51 zs31 rfl ?_
      rw [hof 31 (by decide), h10]
      refine zr_kicmp_gt hE eX7_costOneEach_7 (tgt := 47) (by decide) (fun zc7 zd7 => ?_) (fun zc7 zd7 => absurd zc7 (by rw [nI_leI (by omega) (by omega)]; omega))
      refine hR.2.2.2 _ _ _ _ eX7_costOneEach_47 rfl ?_
      exact hQ u hof (fun t h1 h2 => hco t h1 (by omega))
    | succ k ih =>
      intro s u h1 h2 hof hco
      refine zr_iload_n hE eX7_costOneEach_2 rfl ?_
      refine zr_aload_n hE eX7_costOneEach_3 rfl ?_
      refine zr_getI hE eX7_costOneEach_4 fX7_51 zs31 rfl ?_
      rw [hof 31 (by decide), h10]
      refine zr_kicmp_gt hE eX7_costOneEach_7 (tgt := 47) (by decide) (fun zc7 zd7 => absurd ((nI_leI (by omega) (by omega)).mpr (by omega)) zc7) (fun zc7 zd7 => ?_)
      refine zr_aload_n hE eX7_costOneEach_10 rfl ?_
      refine zr_getR hE eX7_costOneEach_11 fX7_21 zs31 rfl ?_
      refine zr_iload_n hE eX7_costOneEach_14 rfl ?_
      refine zr_aload_n hE eX7_costOneEach_15 rfl ?_
      refine zr_getR hE eX7_costOneEach_16 fX7_9 zs31 rfl ?_
      refine zr_iload_n hE eX7_costOneEach_19 rfl ?_
      refine zr_iald hE eX7_costOneEach_20 zs32 (vpn (show s < 512 by omega) (by decide)) ?_
      simp only [nI_clamp (show s < 2 ^ 31 by omega)]
      refine zr_kif_le hE eX7_costOneEach_21 (tgt := 38) (by decide) (fun zc21 zd21 => ?_) (fun zc21 zd21 => ?_)
      · refine zr_ldc hE eX7_costOneEach_38 hX7_98 ?_
        refine zr_iast hE eX7_costOneEach_40 zs35 (vpn (show s < 512 by omega) (by decide)) ?_
        refine zr_iincN hE eX7_costOneEach_41 rfl (by decide) rfl ?_
        refine zr_goto hE eX7_costOneEach_44 (tgt := 2) (by decide) ?_
        refine ih (s + 1) _ (by omega) (by omega) (fun p hp => ?_) (fun t h1 h2 => ?_)
        · funext z; rw [wu_ne hp]; exact congrFun (hof p hp) z
        · rw [nI_clamp (by omega)]
          by_cases q : t = s
          · subst q
            rw [wu_eq]
            rw [← hof 32 (by decide)]
            simp only [co1]
            rw [if_neg (fun e => zc21 e.1)]
          · rw [wu_nj q]; exact hco t h1 (by omega)
      · refine zr_aload_n hE eX7_costOneEach_24 rfl ?_
        refine zr_getR hE eX7_costOneEach_25 fX7_9 zs31 rfl ?_
        refine zr_iload_n hE eX7_costOneEach_28 rfl ?_
        refine zr_iald hE eX7_costOneEach_29 zs32 (vpn (show s < 512 by omega) (by decide)) ?_
        refine zr_iload_n hE eX7_costOneEach_30 rfl ?_
        simp only [nI_clamp (show s < 2 ^ 31 by omega)]
        refine zr_kicmp_gt hE eX7_costOneEach_31 (tgt := 38) (by decide) (fun zc31 zd31 => ?_) (fun zc31 zd31 => ?_)
        · refine zr_ldc hE eX7_costOneEach_38 hX7_98 ?_
          refine zr_iast hE eX7_costOneEach_40 zs35 (vpn (show s < 512 by omega) (by decide)) ?_
          refine zr_iincN hE eX7_costOneEach_41 rfl (by decide) rfl ?_
          refine zr_goto hE eX7_costOneEach_44 (tgt := 2) (by decide) ?_
          refine ih (s + 1) _ (by omega) (by omega) (fun p hp => ?_) (fun t h1 h2 => ?_)
          · funext z; rw [wu_ne hp]; exact congrFun (hof p hp) z
          · rw [nI_clamp (by omega)]
            by_cases q : t = s
            · subst q
              rw [wu_eq]
              rw [← hof 32 (by decide)]
              simp only [co1]
              rw [if_neg (fun e => zc31 e.2)]
            · rw [wu_nj q]; exact hco t h1 (by omega)
        · refine zr_iconst hE eX7_costOneEach_34 (v := 1) (by decide) ?_
          refine zr_goto hE eX7_costOneEach_35 (tgt := 40) (by decide) ?_
          refine zr_iast hE eX7_costOneEach_40 zs35 (vpn (show s < 512 by omega) (by decide)) ?_
          refine zr_iincN hE eX7_costOneEach_41 rfl (by decide) rfl ?_
          refine zr_goto hE eX7_costOneEach_44 (tgt := 2) (by decide) ?_
          refine ih (s + 1) _ (by omega) (by omega) (fun p hp => ?_) (fun t h1 h2 => ?_)
          · funext z; rw [wu_ne hp]; exact congrFun (hof p hp) z
          · rw [nI_clamp (by omega)]
            by_cases q : t = s
            · subst q
              rw [wu_eq]
              rw [← hof 32 (by decide)]
              simp only [co1]
              rw [if_pos ⟨zc21, zc31⟩]
            · rw [wu_nj q]; exact hco t h1 (by omega)
  refine zr_iconst hE eX7_costOneEach_0 (v := 1) (by decide) ?_
  refine zr_istore_n hE eX7_costOneEach_1 (by decide) rfl ?_
  exact loop n 1 w (by omega) (by omega) (fun _ _ => rfl) (fun t h1 h2 => by omega)
set_option maxHeartbeats 4000000 in
theorem c_X7_costHeights {n : Nat} {w : ww} {Q : Option Value → ww → Prop} (hn : n < 512) (h10 : w 31 10 = nI n) (hQ : ∀ u : ww, (∀ p, p ≠ 35 → u p = w p) → (∀ t, 0 < t → t ≤ n → u 35 t = coH (w 32) t) → Q none u) : Ct mX7_costHeights 2 [.ref 31] w Q := by
  refine Ct.of (by decide) (Nat.le_of_ble_eq_true rfl) (fun _ => Nat.le_of_ble_eq_true rfl) (fun G hR => ?_)
  have hE := hR.1
  have loop : ∀ (k s : Nat) (u : ww), s ≤ n + 1 → n + 1 - s = k → (∀ p, p ≠ 35 → u p = w p) → (∀ t, 0 < t → t < s → u 35 t = coH (w 32) t) → G 2 [some (.ref 31), some (.int (nI s))] [] u := by
    intro k
    induction k with
    | zero =>
      intro s u h1 h2 hof hco
      refine zr_iload_n hE eX7_costHeights_2 rfl ?_
      refine zr_aload_n hE eX7_costHeights_3 rfl ?_
      refine zr_getI hE eX7_costHeights_4 fX7_51 zs31 rfl ?_
      rw [hof 31 (by decide), h10]
      refine zr_kicmp_gt hE eX7_costHeights_7 (tgt := 42) (by decide) (fun zc7 zd7 => ?_) (fun zc7 zd7 => absurd zc7 (by rw [nI_leI (by omega) (by omega)]; omega))
      refine hR.2.2.2 _ _ _ _ eX7_costHeights_42 rfl ?_
      exact hQ u hof (fun t h1 h2 => hco t h1 (by omega))
    | succ k ih =>
      intro s u h1 h2 hof hco
      refine zr_iload_n hE eX7_costHeights_2 rfl ?_
      refine zr_aload_n hE eX7_costHeights_3 rfl ?_
      refine zr_getI hE eX7_costHeights_4 fX7_51 zs31 rfl ?_
      rw [hof 31 (by decide), h10]
      refine zr_kicmp_gt hE eX7_costHeights_7 (tgt := 42) (by decide) (fun zc7 zd7 => absurd ((nI_leI (by omega) (by omega)).mpr (by omega)) zc7) (fun zc7 zd7 => ?_)
      refine zr_aload_n hE eX7_costHeights_10 rfl ?_
      refine zr_getR hE eX7_costHeights_11 fX7_21 zs31 rfl ?_
      refine zr_iload_n hE eX7_costHeights_14 rfl ?_
      refine zr_aload_n hE eX7_costHeights_15 rfl ?_
      refine zr_getR hE eX7_costHeights_16 fX7_9 zs31 rfl ?_
      refine zr_iload_n hE eX7_costHeights_19 rfl ?_
      refine zr_iald hE eX7_costHeights_20 zs32 (vpn (show s < 512 by omega) (by decide)) ?_
      simp only [nI_clamp (show s < 2 ^ 31 by omega)]
      refine zr_kif_le hE eX7_costHeights_21 (tgt := 33) (by decide) (fun zc21 zd21 => ?_) (fun zc21 zd21 => ?_)
      · refine zr_ldc hE eX7_costHeights_33 hX7_98 ?_
        refine zr_iast hE eX7_costHeights_35 zs35 (vpn (show s < 512 by omega) (by decide)) ?_
        refine zr_iincN hE eX7_costHeights_36 rfl (by decide) rfl ?_
        refine zr_goto hE eX7_costHeights_39 (tgt := 2) (by decide) ?_
        refine ih (s + 1) _ (by omega) (by omega) (fun p hp => ?_) (fun t h1 h2 => ?_)
        · funext z; rw [wu_ne hp]; exact congrFun (hof p hp) z
        · rw [nI_clamp (by omega)]
          by_cases q : t = s
          · subst q
            rw [wu_eq]
            rw [← hof 32 (by decide)]
            simp only [coH]
            rw [if_neg zc21]
          · rw [wu_nj q]; exact hco t h1 (by omega)
      · refine zr_aload_n hE eX7_costHeights_24 rfl ?_
        refine zr_getR hE eX7_costHeights_25 fX7_9 zs31 rfl ?_
        refine zr_iload_n hE eX7_costHeights_28 rfl ?_
        refine zr_iald hE eX7_costHeights_29 zs32 (vpn (show s < 512 by omega) (by decide)) ?_
        simp only [nI_clamp (show s < 2 ^ 31 by omega)]
        refine zr_goto hE eX7_costHeights_30 (tgt := 35) (by decide) ?_
        refine zr_iast hE eX7_costHeights_35 zs35 (vpn (show s < 512 by omega) (by decide)) ?_
        refine zr_iincN hE eX7_costHeights_36 rfl (by decide) rfl ?_
        refine zr_goto hE eX7_costHeights_39 (tgt := 2) (by decide) ?_
        refine ih (s + 1) _ (by omega) (by omega) (fun p hp => ?_) (fun t h1 h2 => ?_)
        · funext z; rw [wu_ne hp]; exact congrFun (hof p hp) z
        · rw [nI_clamp (by omega)]
          by_cases q : t = s
          · subst q
            rw [wu_eq]
            rw [← hof 32 (by decide)]
            simp only [coH]
            rw [if_pos zc21]
          · rw [wu_nj q]; exact hco t h1 (by omega)
  refine zr_iconst hE eX7_costHeights_0 (v := 1) (by decide) ?_
  refine zr_istore_n hE eX7_costHeights_1 (by decide) rfl ?_
  exact loop n 1 w (by omega) (by omega) (fun _ _ => rfl) (fun t h1 h2 => by omega)
set_option maxHeartbeats 4000000 in
theorem c_X7_costLessForSetsOf {n : Nat} {m : Int32} {w : ww} {Q : Option Value → ww → Prop} (hn : n < 512) (h10 : w 31 10 = nI n) (hQ : ∀ u : ww, (∀ p, p ≠ 35 → u p = w p) → (∀ t, 0 < t → t ≤ n → u 35 t = coW (w 32) m t) → Q none u) : Ct mX7_costLessForSetsOf 2 [.ref 31, .int m] w Q := by
  refine Ct.of (by decide) (Nat.le_of_ble_eq_true rfl) (fun _ => Nat.le_of_ble_eq_true rfl) (fun G hR => ?_)
  have hE := hR.1
  have loop : ∀ (k s : Nat) (u : ww), s ≤ n + 1 → n + 1 - s = k → (∀ p, p ≠ 35 → u p = w p) → (∀ t, 0 < t → t < s → u 35 t = coW (w 32) m t) → G 2 [some (.ref 31), some (.int m), some (.int (nI s)), none] [] u := by
    intro k
    induction k with
    | zero =>
      intro s u h1 h2 hof hco
      refine zr_iload_n hE eX7_costLessForSetsOf_2 rfl ?_
      refine zr_aload_n hE eX7_costLessForSetsOf_3 rfl ?_
      refine zr_getI hE eX7_costLessForSetsOf_4 fX7_51 zs31 rfl ?_
      rw [hof 31 (by decide), h10]
      refine zr_kicmp_gt hE eX7_costLessForSetsOf_7 (tgt := 62) (by decide) (fun zc7 zd7 => ?_) (fun zc7 zd7 => absurd zc7 (by rw [nI_leI (by omega) (by omega)]; omega))
      refine hR.2.2.2 _ _ _ _ eX7_costLessForSetsOf_62 rfl ?_
      exact hQ u hof (fun t h1 h2 => hco t h1 (by omega))
    | succ k ih =>
      intro s u h1 h2 hof hco
      refine zr_iload_n hE eX7_costLessForSetsOf_2 rfl ?_
      refine zr_aload_n hE eX7_costLessForSetsOf_3 rfl ?_
      refine zr_getI hE eX7_costLessForSetsOf_4 fX7_51 zs31 rfl ?_
      rw [hof 31 (by decide), h10]
      refine zr_kicmp_gt hE eX7_costLessForSetsOf_7 (tgt := 62) (by decide) (fun zc7 zd7 => absurd ((nI_leI (by omega) (by omega)).mpr (by omega)) zc7) (fun zc7 zd7 => ?_)
      refine zr_iload_n hE eX7_costLessForSetsOf_10 rfl ?_
      refine zr_callS1 hE eX7_costLessForSetsOf_11 lX7_89 (by decide) (Nat.le_of_ble_eq_true rfl) (c_bc (show s < 1024 by omega) ?_)
      refine zr_istore_n hE eX7_costLessForSetsOf_14 (by decide) rfl ?_
      refine zr_iload_n hE eX7_costLessForSetsOf_15 rfl ?_
      refine zr_iload_n hE eX7_costLessForSetsOf_16 rfl ?_
      refine zr_icmp_ne hE eX7_costLessForSetsOf_17 (tgt := 39) (by decide) (fun zc17 => ?_) (fun zc17 => ?_)
      · refine zr_aload_n hE eX7_costLessForSetsOf_39 rfl ?_
        refine zr_getR hE eX7_costLessForSetsOf_40 fX7_21 zs31 rfl ?_
        refine zr_iload_n hE eX7_costLessForSetsOf_43 rfl ?_
        refine zr_iload_n hE eX7_costLessForSetsOf_44 rfl ?_
        refine zr_iconst hE eX7_costLessForSetsOf_45 (v := 1) (by decide) ?_
        refine zr_icmp_ne hE eX7_costLessForSetsOf_46 (tgt := 53) (by decide) (fun zc46 => ?_) (fun zc46 => ?_)
        · refine zr_ldc hE eX7_costLessForSetsOf_53 hX7_98 ?_
          refine zr_iast hE eX7_costLessForSetsOf_55 zs35 (vpn (show s < 512 by omega) (by decide)) ?_
          refine zr_iincN hE eX7_costLessForSetsOf_56 rfl (by decide) rfl ?_
          refine zr_goto hE eX7_costLessForSetsOf_59 (tgt := 2) (by decide) ?_
          refine zr_mask hE [true, true, true, false] ?_
          have hp1 := pop_le s 10
          refine ih (s + 1) _ (by omega) (by omega) (fun p hp => ?_) (fun t h1 h2 => ?_)
          · funext z; rw [wu_ne hp]; exact congrFun (hof p hp) z
          · rw [nI_clamp (by omega)]
            by_cases q : t = s
            · subst q
              rw [wu_eq]
              rw [← hof 32 (by decide)]
              simp only [coW]
              rw [if_neg (fun e => zc17 e.1), if_neg (fun e => zc46 (by rw [e]; rfl))]
            · rw [wu_nj q]; exact hco t h1 (by omega)
        · refine zr_iconst hE eX7_costLessForSetsOf_49 (v := 0) (by decide) ?_
          refine zr_goto hE eX7_costLessForSetsOf_50 (tgt := 55) (by decide) ?_
          refine zr_iast hE eX7_costLessForSetsOf_55 zs35 (vpn (show s < 512 by omega) (by decide)) ?_
          refine zr_iincN hE eX7_costLessForSetsOf_56 rfl (by decide) rfl ?_
          refine zr_goto hE eX7_costLessForSetsOf_59 (tgt := 2) (by decide) ?_
          refine zr_mask hE [true, true, true, false] ?_
          have hp1 := pop_le s 10
          refine ih (s + 1) _ (by omega) (by omega) (fun p hp => ?_) (fun t h1 h2 => ?_)
          · funext z; rw [wu_ne hp]; exact congrFun (hof p hp) z
          · rw [nI_clamp (by omega)]
            by_cases q : t = s
            · subst q
              rw [wu_eq]
              rw [← hof 32 (by decide)]
              simp only [coW]
              rw [if_neg (fun e => zc17 e.1), if_pos ((nI_eq (b := 1) (by omega) (by decide)).mp zc46)]
            · rw [wu_nj q]; exact hco t h1 (by omega)
      · refine zr_aload_n hE eX7_costLessForSetsOf_20 rfl ?_
        refine zr_getR hE eX7_costLessForSetsOf_21 fX7_9 zs31 rfl ?_
        refine zr_iload_n hE eX7_costLessForSetsOf_24 rfl ?_
        refine zr_iald hE eX7_costLessForSetsOf_25 zs32 (vpn (show s < 512 by omega) (by decide)) ?_
        simp only [nI_clamp (show s < 2 ^ 31 by omega)]
        refine zr_kif_le hE eX7_costLessForSetsOf_26 (tgt := 39) (by decide) (fun zc26 zd26 => ?_) (fun zc26 zd26 => ?_)
        · refine zr_aload_n hE eX7_costLessForSetsOf_39 rfl ?_
          refine zr_getR hE eX7_costLessForSetsOf_40 fX7_21 zs31 rfl ?_
          refine zr_iload_n hE eX7_costLessForSetsOf_43 rfl ?_
          refine zr_iload_n hE eX7_costLessForSetsOf_44 rfl ?_
          refine zr_iconst hE eX7_costLessForSetsOf_45 (v := 1) (by decide) ?_
          refine zr_icmp_ne hE eX7_costLessForSetsOf_46 (tgt := 53) (by decide) (fun zc46 => ?_) (fun zc46 => ?_)
          · refine zr_ldc hE eX7_costLessForSetsOf_53 hX7_98 ?_
            refine zr_iast hE eX7_costLessForSetsOf_55 zs35 (vpn (show s < 512 by omega) (by decide)) ?_
            refine zr_iincN hE eX7_costLessForSetsOf_56 rfl (by decide) rfl ?_
            refine zr_goto hE eX7_costLessForSetsOf_59 (tgt := 2) (by decide) ?_
            refine zr_mask hE [true, true, true, false] ?_
            have hp1 := pop_le s 10
            refine ih (s + 1) _ (by omega) (by omega) (fun p hp => ?_) (fun t h1 h2 => ?_)
            · funext z; rw [wu_ne hp]; exact congrFun (hof p hp) z
            · rw [nI_clamp (by omega)]
              by_cases q : t = s
              · subst q
                rw [wu_eq]
                rw [← hof 32 (by decide)]
                simp only [coW]
                rw [if_neg (fun e => zc26 e.2), if_neg (fun e => zc46 (by rw [e]; rfl))]
              · rw [wu_nj q]; exact hco t h1 (by omega)
          · refine zr_iconst hE eX7_costLessForSetsOf_49 (v := 0) (by decide) ?_
            refine zr_goto hE eX7_costLessForSetsOf_50 (tgt := 55) (by decide) ?_
            refine zr_iast hE eX7_costLessForSetsOf_55 zs35 (vpn (show s < 512 by omega) (by decide)) ?_
            refine zr_iincN hE eX7_costLessForSetsOf_56 rfl (by decide) rfl ?_
            refine zr_goto hE eX7_costLessForSetsOf_59 (tgt := 2) (by decide) ?_
            refine zr_mask hE [true, true, true, false] ?_
            have hp1 := pop_le s 10
            refine ih (s + 1) _ (by omega) (by omega) (fun p hp => ?_) (fun t h1 h2 => ?_)
            · funext z; rw [wu_ne hp]; exact congrFun (hof p hp) z
            · rw [nI_clamp (by omega)]
              by_cases q : t = s
              · subst q
                rw [wu_eq]
                rw [← hof 32 (by decide)]
                simp only [coW]
                rw [if_neg (fun e => zc26 e.2), if_pos ((nI_eq (b := 1) (by omega) (by decide)).mp zc46)]
              · rw [wu_nj q]; exact hco t h1 (by omega)
        · refine zr_aload_n hE eX7_costLessForSetsOf_29 rfl ?_
          refine zr_getR hE eX7_costLessForSetsOf_30 fX7_21 zs31 rfl ?_
          refine zr_iload_n hE eX7_costLessForSetsOf_33 rfl ?_
          refine zr_iconst hE eX7_costLessForSetsOf_34 (v := -1) (by decide) ?_
          refine zr_iast hE eX7_costLessForSetsOf_35 zs35 (vpn (show s < 512 by omega) (by decide)) ?_
          refine zr_goto hE eX7_costLessForSetsOf_36 (tgt := 56) (by decide) ?_
          refine zr_iincN hE eX7_costLessForSetsOf_56 rfl (by decide) rfl ?_
          refine zr_goto hE eX7_costLessForSetsOf_59 (tgt := 2) (by decide) ?_
          refine zr_mask hE [true, true, true, false] ?_
          have hp1 := pop_le s 10
          refine ih (s + 1) _ (by omega) (by omega) (fun p hp => ?_) (fun t h1 h2 => ?_)
          · funext z; rw [wu_ne hp]; exact congrFun (hof p hp) z
          · rw [nI_clamp (by omega)]
            by_cases q : t = s
            · subst q
              rw [wu_eq]
              rw [← hof 32 (by decide)]
              simp only [coW]
              rw [if_pos ⟨zc17, zc26⟩]
            · rw [wu_nj q]; exact hco t h1 (by omega)
  refine zr_iconst hE eX7_costLessForSetsOf_0 (v := 1) (by decide) ?_
  refine zr_istore_n hE eX7_costLessForSetsOf_1 (by decide) rfl ?_
  exact loop n 1 w (by omega) (by omega) (fun _ _ => rfl) (fun t h1 h2 => by omega)
