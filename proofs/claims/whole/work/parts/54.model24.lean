/-! The reference: here, isDigit, takes, readsNumber. -/
/-- a text is read: shelf dn, size n, place p -/
def Ps (w : ww) (dn n p : Nat) : Prop := dn < 8 ∧ n ≤ 100 ∧ p ≤ 1000 ∧ w 57 12 = nI (100 * dn) ∧ w 57 13 = nI n ∧ w 57 11 = nI p
def hrF (F : Nat → Int32) (n p : Nat) : Int32 := if p < n then F p else -1000
def dgF (F : Nat → Int32) (n p : Nat) : Bool := fIs (hrF F n p) 48 57
/-- but for place, count of numbers, numbers -/
def Prw (w u : ww) (q : Nat) : Prop := (∀ o, o ≠ 57 → o ≠ 67 → u o = w o) ∧ (∀ k, k ≠ 11 → k ≠ 14 → u 57 k = w 57 k) ∧ u 57 11 = nI q
theorem Prw.trans {w u x : ww} {p q : Nat} (h : Prw w u p) (h2 : Prw u x q) : Prw w x q :=
  ⟨fun o a b => (h2.1 o a b).trans (h.1 o a b), fun k a b => (h2.2.1 k a b).trans (h.2.1 k a b), h2.2.2⟩
theorem Prw.ps {w u : ww} {dn n p q : Nat} (h : Prw w u q) (hP : Ps w dn n p) (hq : q ≤ 1000) : Ps u dn n q :=
  ⟨hP.1, hP.2.1, hq, (h.2.1 12 (by decide) (by decide)).trans hP.2.2.2.1, (h.2.1 13 (by decide) (by decide)).trans hP.2.2.2.2.1, h.2.2⟩
theorem Prw.fe {w u : ww} {dn q : Nat} (h : Prw w u q) : fE u dn = fE w dn := by
  funext j; unfold fE; rw [h.1 64 (by decide) (by decide)]
theorem Prw.rf {w : ww} {q : Nat} (h : w 57 11 = nI q) : Prw w w q := ⟨fun _ _ _ => rfl, fun _ _ _ => rfl, h⟩
theorem Prw.set {w : ww} {q : Nat} : Prw w (wu w 57 11 (nI q)) q := by
  refine ⟨fun o a b => ?_, fun k a b => ?_, wu_eq⟩
  · funext z; rw [wu_ne a]
  · rw [wu_nj a]
set_option maxHeartbeats 4000000 in
theorem c_X12_here {dn n p : Nat} {w : ww} {Q : Option Value → ww → Prop} (hP : Ps w dn n p) (hQ : Q (some (.int (hrF (fE w dn) n p))) w) : Ct mX12_here 1 [.ref 57] w Q := by
  refine Ct.of (by decide) (Nat.le_of_ble_eq_true rfl) (fun _ => Nat.le_of_ble_eq_true rfl) (fun G hR => ?_)
  have hE := hR.1
  refine zr_aload_n hE eX12_here_0 rfl ?_
  refine zr_getI hE eX12_here_1 fX12_93 zs57 rfl ?_
  refine zr_aload_n hE eX12_here_4 rfl ?_
  refine zr_getI hE eX12_here_5 fX12_96 zs57 rfl ?_
  rw [hP.2.2.2.2.1, hP.2.2.2.2.2]
  refine zr_kicmp_ge hE eX12_here_8 (tgt := 28) (by decide) (fun zc8 zd8 => ?_) (fun zc8 zd8 => ?_)
  · refine zr_sipush hE eX12_here_28 (v := -1000) (by decide) ?_
    refine hR.2.1 _ _ _ _ _ _ eX12_here_31 rfl rfl ?_
    unfold hrF at hQ
    rw [if_neg (fun q => zc8 ((nI_ltI (by have := hP.2.2.1; omega) (by have := hP.2.1; omega)).mpr q))] at hQ
    exact hQ
  · refine zr_aload_n hE eX12_here_11 rfl ?_
    refine zr_getR hE eX12_here_12 fX12_28 zs57 rfl ?_
    refine zr_aload_n hE eX12_here_15 rfl ?_
    refine zr_getI hE eX12_here_16 fX12_99 zs57 rfl ?_
    refine zr_aload_n hE eX12_here_19 rfl ?_
    refine zr_getI hE eX12_here_20 fX12_93 zs57 rfl ?_
    rw [hP.2.2.2.1, hP.2.2.2.2.2]
    refine zr_iadd hE eX12_here_23 ?_
    show G _ _ (.int (nI (100 * dn) + nI p) :: _) _
    rw [nI_add]
    refine zr_ialdv hE eX12_here_24 zs64 (vpn (show 100 * dn + p < 800 by have := hP.1; have := hP.2.1; have := (nI_ltI (by have := hP.2.2.1; omega) (by have := hP.2.1; omega)).mp zc8; omega) (by decide)) ((congrArg (w 64) (nI_clamp (by have := hP.1; have := hP.2.2.1; omega))).trans (fE_d w dn p)) ?_
    refine zr_goto hE eX12_here_25 (tgt := 31) (by decide) ?_
    refine hR.2.1 _ _ _ _ _ _ eX12_here_31 rfl rfl ?_
    unfold hrF at hQ
    rw [if_pos ((nI_ltI (by have := hP.2.2.1; omega) (by have := hP.2.1; omega)).mp zc8)] at hQ
    exact hQ

set_option maxHeartbeats 4000000 in
theorem c_X12_isDigit {dn n p : Nat} {w : ww} {Q : Option Value → ww → Prop} (hP : Ps w dn n p) (hQ : Q (some (.int (bi (dgF (fE w dn) n p)))) w) : Ct mX12_isDigit 2 [.ref 57] w Q := by
  refine Ct.of (by decide) (Nat.le_of_ble_eq_true rfl) (fun _ => Nat.le_of_ble_eq_true rfl) (fun G hR => ?_)
  have hE := hR.1
  refine zr_aload_n hE eX12_isDigit_0 rfl ?_
  refine zr_callV0 hE eX12_isDigit_1 lX12_102 zs57 rfl rfl (by decide) (Nat.le_of_ble_eq_true rfl) (c_X12_here hP ?_)
  refine zr_i2l hE eX12_isDigit_4 ?_
  refine zr_ldc2 hE eX12_isDigit_5 hX12_105 ?_
  refine zr_ldc2 hE eX12_isDigit_8 hX12_107 ?_
  refine zr_callS3 hE eX12_isDigit_11 lX12_55 (by decide) (Nat.le_of_ble_eq_true rfl) (c_X12_isIn32 48 57 (by decide) (by decide) ?_)
  refine hR.2.1 _ _ _ _ _ _ eX12_isDigit_14 rfl (narrow_bi _) ?_
  exact hQ

def Tk (w : ww) (b : Bool) (p : Nat) (u : ww) : Prop := if b = true then Prw w u (p + 1) ∧ u 57 14 = w 57 14 ∧ u 67 = w 67 else u = w
set_option maxHeartbeats 4000000 in
theorem c_X12_takes {dn n p : Nat} {c : Int32} {w : ww} {Q : Option Value → ww → Prop} (hP : Ps w dn n p) (hQ : ∀ u, Tk w (decide (hrF (fE w dn) n p = c)) p u → Q (some (.int (bi (decide (hrF (fE w dn) n p = c))))) u) : Ct mX12_takes 2 [.ref 57, .int c] w Q := by
  refine Ct.of (by decide) (Nat.le_of_ble_eq_true rfl) (fun _ => Nat.le_of_ble_eq_true rfl) (fun G hR => ?_)
  have hE := hR.1
  refine zr_aload_n hE eX12_takes_0 rfl ?_
  refine zr_callV0 hE eX12_takes_1 lX12_102 zs57 rfl rfl (by decide) (Nat.le_of_ble_eq_true rfl) (c_X12_here hP ?_)
  refine zr_iload_n hE eX12_takes_4 rfl ?_
  refine zr_icmp_eq hE eX12_takes_5 (tgt := 10) (by decide) (fun zc5 => ?_) (fun zc5 => ?_)
  · refine zr_aload_n hE eX12_takes_10 rfl ?_
    refine zr_dup hE eX12_takes_11 rfl ?_
    refine zr_getI hE eX12_takes_12 fX12_93 zs57 rfl ?_
    refine zr_iconst hE eX12_takes_15 (v := 1) (by decide) ?_
    rw [hP.2.2.2.2.2]
    refine zr_iadd hE eX12_takes_16 ?_
    show G _ _ (.int (nI p + 1) :: _) _
    rw [nI_1]
    refine zr_put hE eX12_takes_17 gX12_93 zs57 rfl rfl rfl ?_
    refine zr_iconst hE eX12_takes_20 (v := 1) (by decide) ?_
    refine hR.2.1 _ _ _ _ _ _ eX12_takes_21 rfl rfl ?_
    have q := hQ (wu w 57 11 (nI (p + 1))) (by rw [decide_eq_true zc5]; exact ⟨Prw.set, wu_nj (by decide), by funext z; rw [wu_ne (by decide)]⟩)
    rw [decide_eq_true zc5] at q
    exact q
  · refine zr_iconst hE eX12_takes_8 (v := 0) (by decide) ?_
    refine hR.2.1 _ _ _ _ _ _ eX12_takes_9 rfl rfl ?_
    have q := hQ w (by rw [decide_eq_false zc5]; exact rfl)
    rw [decide_eq_false zc5] at q
    exact q

def rnF (F : Nat → Int32) (n : Nat) (m : Int32) (p : Nat) : Option (Nat × Int32) := if dgF F n p = true then (if 1 < m ∧ 0 < hrF F n p - 48 ∧ dgF F n (p + 1) = true then some (p + 2, 10 * (hrF F n p - 48) + hrF F n (p + 1) - 48) else some (p + 1, hrF F n p - 48)) else none
def Rn (w : ww) (t : Nat) (r : Option (Nat × Int32)) (u : ww) : Prop := match r with
  | none => u = w
  | some (p, v) => Prw w u p ∧ u 57 14 = nI (t + 1) ∧ u 67 = upd (w 67) t v
theorem Rn_mk {w : ww} {t p : Nat} {v : Int32} : Prw w (wu (wu (wu w 57 11 (nI p)) 67 t v) 57 14 (nI (t + 1))) p ∧ (wu (wu (wu w 57 11 (nI p)) 67 t v) 57 14 (nI (t + 1))) 57 14 = nI (t + 1) ∧ (wu (wu (wu w 57 11 (nI p)) 67 t v) 57 14 (nI (t + 1))) 67 = upd (w 67) t v := by
  refine ⟨⟨fun o a b => ?_, fun k a b => ?_, ?_⟩, wu_eq, ?_⟩
  · funext z; rw [wu_ne a, wu_ne b, wu_ne a]
  · rw [wu_nj b, wu_ne (by decide), wu_nj a]
  · rw [wu_nj (by decide), wu_ne (by decide), wu_eq]
  · funext z
    rw [wu_ne (by decide)]
    unfold upd
    by_cases q : z = t
    · rw [if_pos q, q, wu_eq]
    · rw [if_neg q, wu_nj q, wu_ne (by decide)]
theorem Ps.n1 {w : ww} {dn n p : Nat} (hP : Ps w dn n p) (h : dgF (fE w dn) n p = true) : p < n := Decidable.byContradiction fun q => by
  unfold dgF hrF at h
  rw [if_neg q] at h
  exact absurd h (by decide)
theorem Ps.up {w : ww} {dn n p q : Nat} (hP : Ps w dn n p) (hq : q ≤ 1000) : Ps (wu w 57 11 (nI q)) dn n q := Prw.ps Prw.set hP hq
theorem fE_57 {w : ww} {i dn : Nat} {v : Int32} : fE (wu w 57 i v) dn = fE w dn := by
  funext j; unfold fE; rw [wu_ne (by decide)]
set_option maxHeartbeats 4000000 in
theorem c_X12_readsNumber {dn n p t : Nat} {m : Int32} {w : ww} {Q : Option Value → ww → Prop} (hP : Ps w dn n p) (ht : t < 5) (htw : w 57 14 = nI t) (hQ : ∀ u, Rn w t (rnF (fE w dn) n m p) u → Q (some (.int (bi (rnF (fE w dn) n m p).isSome))) u) : Ct mX12_readsNumber 3 [.ref 57, .int m] w Q := by
  refine Ct.of (by decide) (Nat.le_of_ble_eq_true rfl) (fun _ => Nat.le_of_ble_eq_true rfl) (fun G hR => ?_)
  have hE := hR.1
  refine zr_aload_n hE eX12_readsNumber_0 rfl ?_
  refine zr_callV0 hE eX12_readsNumber_1 lX12_109 zs57 rfl rfl (by decide) (Nat.le_of_ble_eq_true rfl) (c_X12_isDigit hP ?_)
  refine zr_bne hE eX12_readsNumber_4 (tgt := 9) (by decide) (fun zc4 => ?_) (fun zc4 => ?_)
  · refine zr_aload_n hE eX12_readsNumber_9 rfl ?_
    refine zr_callV0 hE eX12_readsNumber_10 lX12_102 zs57 rfl rfl (by decide) (Nat.le_of_ble_eq_true rfl) (c_X12_here hP ?_)
    refine zr_bipush hE eX12_readsNumber_13 (v := 48) (by decide) ?_
    refine zr_isub hE eX12_readsNumber_15 ?_
    refine zr_istore_n hE eX12_readsNumber_16 (by decide) rfl ?_
    refine zr_aload_n hE eX12_readsNumber_17 rfl ?_
    refine zr_dup hE eX12_readsNumber_18 rfl ?_
    refine zr_getI hE eX12_readsNumber_19 fX12_93 zs57 rfl ?_
    refine zr_iconst hE eX12_readsNumber_22 (v := 1) (by decide) ?_
    rw [hP.2.2.2.2.2]
    refine zr_iadd hE eX12_readsNumber_23 ?_
    show G _ _ (.int (nI p + 1) :: _) _
    rw [nI_1]
    refine zr_put hE eX12_readsNumber_24 gX12_93 zs57 rfl rfl rfl ?_
    refine zr_iload_n hE eX12_readsNumber_27 rfl ?_
    refine zr_iconst hE eX12_readsNumber_28 (v := 1) (by decide) ?_
    refine zr_kicmp_le hE eX12_readsNumber_29 (tgt := 66) (by decide) (fun zc29 zd29 => ?_) (fun zc29 zd29 => ?_)
    · try rw [wu_wu]
      refine zr_aload_n hE eX12_readsNumber_66 rfl ?_
      refine zr_getR hE eX12_readsNumber_67 fX12_37 zs57 rfl ?_
      refine zr_aload_n hE eX12_readsNumber_70 rfl ?_
      refine zr_getI hE eX12_readsNumber_71 fX12_113 zs57 rfl ?_
      rw [wu_nj (by decide), htw]
      refine zr_iload_n hE eX12_readsNumber_74 rfl ?_
      refine zr_iast hE eX12_readsNumber_75 zs67 (vpn ht (by decide)) ?_
      rw [nI_clamp (show t < 2 ^ 31 by omega)]
      refine zr_aload_n hE eX12_readsNumber_76 rfl ?_
      refine zr_dup hE eX12_readsNumber_77 rfl ?_
      refine zr_getI hE eX12_readsNumber_78 fX12_113 zs57 rfl ?_
      refine zr_iconst hE eX12_readsNumber_81 (v := 1) (by decide) ?_
      rw [wu_ne (by decide), wu_nj (by decide), htw]
      refine zr_iadd hE eX12_readsNumber_82 ?_
      show G _ _ (.int (nI t + 1) :: _) _
      rw [nI_1]
      refine zr_put hE eX12_readsNumber_83 gX12_113 zs57 rfl rfl rfl ?_
      refine zr_iconst hE eX12_readsNumber_86 (v := 1) (by decide) ?_
      refine hR.2.1 _ _ _ _ _ _ eX12_readsNumber_87 rfl rfl ?_
      have xr : rnF (fE w dn) n m p = some (p + 1, hrF (fE w dn) n p - 48) := by unfold rnF; rw [if_pos zc4, if_neg (fun q => zc29 q.1)]
      have q := hQ _ (by rw [xr]; exact Rn_mk)
      rw [xr] at q
      exact q
    · refine zr_iload_n hE eX12_readsNumber_32 rfl ?_
      refine zr_kif_le hE eX12_readsNumber_33 (tgt := 66) (by decide) (fun zc33 zd33 => ?_) (fun zc33 zd33 => ?_)
      · try rw [wu_wu]
        refine zr_aload_n hE eX12_readsNumber_66 rfl ?_
        refine zr_getR hE eX12_readsNumber_67 fX12_37 zs57 rfl ?_
        refine zr_aload_n hE eX12_readsNumber_70 rfl ?_
        refine zr_getI hE eX12_readsNumber_71 fX12_113 zs57 rfl ?_
        rw [wu_nj (by decide), htw]
        refine zr_iload_n hE eX12_readsNumber_74 rfl ?_
        refine zr_iast hE eX12_readsNumber_75 zs67 (vpn ht (by decide)) ?_
        rw [nI_clamp (show t < 2 ^ 31 by omega)]
        refine zr_aload_n hE eX12_readsNumber_76 rfl ?_
        refine zr_dup hE eX12_readsNumber_77 rfl ?_
        refine zr_getI hE eX12_readsNumber_78 fX12_113 zs57 rfl ?_
        refine zr_iconst hE eX12_readsNumber_81 (v := 1) (by decide) ?_
        rw [wu_ne (by decide), wu_nj (by decide), htw]
        refine zr_iadd hE eX12_readsNumber_82 ?_
        show G _ _ (.int (nI t + 1) :: _) _
        rw [nI_1]
        refine zr_put hE eX12_readsNumber_83 gX12_113 zs57 rfl rfl rfl ?_
        refine zr_iconst hE eX12_readsNumber_86 (v := 1) (by decide) ?_
        refine hR.2.1 _ _ _ _ _ _ eX12_readsNumber_87 rfl rfl ?_
        have xr : rnF (fE w dn) n m p = some (p + 1, hrF (fE w dn) n p - 48) := by unfold rnF; rw [if_pos zc4, if_neg (fun q => zc33 q.2.1)]
        have q := hQ _ (by rw [xr]; exact Rn_mk)
        rw [xr] at q
        exact q
      · refine zr_aload_n hE eX12_readsNumber_36 rfl ?_
        refine zr_callV0 hE eX12_readsNumber_37 lX12_109 zs57 rfl rfl (by decide) (Nat.le_of_ble_eq_true rfl) (c_X12_isDigit (hP.up (q := p + 1) (by have := hP.2.1; have := hP.n1 zc4; omega)) ?_)
        rw [fE_57]
        refine zr_beq hE eX12_readsNumber_40 (tgt := 66) (by decide) (fun zc40 => ?_) (fun zc40 => ?_)
        · try rw [wu_wu]
          refine zr_aload_n hE eX12_readsNumber_66 rfl ?_
          refine zr_getR hE eX12_readsNumber_67 fX12_37 zs57 rfl ?_
          refine zr_aload_n hE eX12_readsNumber_70 rfl ?_
          refine zr_getI hE eX12_readsNumber_71 fX12_113 zs57 rfl ?_
          rw [wu_nj (by decide), htw]
          refine zr_iload_n hE eX12_readsNumber_74 rfl ?_
          refine zr_iast hE eX12_readsNumber_75 zs67 (vpn ht (by decide)) ?_
          rw [nI_clamp (show t < 2 ^ 31 by omega)]
          refine zr_aload_n hE eX12_readsNumber_76 rfl ?_
          refine zr_dup hE eX12_readsNumber_77 rfl ?_
          refine zr_getI hE eX12_readsNumber_78 fX12_113 zs57 rfl ?_
          refine zr_iconst hE eX12_readsNumber_81 (v := 1) (by decide) ?_
          rw [wu_ne (by decide), wu_nj (by decide), htw]
          refine zr_iadd hE eX12_readsNumber_82 ?_
          show G _ _ (.int (nI t + 1) :: _) _
          rw [nI_1]
          refine zr_put hE eX12_readsNumber_83 gX12_113 zs57 rfl rfl rfl ?_
          refine zr_iconst hE eX12_readsNumber_86 (v := 1) (by decide) ?_
          refine hR.2.1 _ _ _ _ _ _ eX12_readsNumber_87 rfl rfl ?_
          have xr : rnF (fE w dn) n m p = some (p + 1, hrF (fE w dn) n p - 48) := by unfold rnF; rw [if_pos zc4, if_neg (fun q => by rw [zc40] at q; cases q.2.2)]
          have q := hQ _ (by rw [xr]; exact Rn_mk)
          rw [xr] at q
          exact q
        · refine zr_bipush hE eX12_readsNumber_43 (v := 10) (by decide) ?_
          refine zr_iload_n hE eX12_readsNumber_45 rfl ?_
          refine zr_imul hE eX12_readsNumber_46 ?_
          refine zr_aload_n hE eX12_readsNumber_47 rfl ?_
          refine zr_callV0 hE eX12_readsNumber_48 lX12_102 zs57 rfl rfl (by decide) (Nat.le_of_ble_eq_true rfl) (c_X12_here (hP.up (q := p + 1) (by have := hP.2.1; have := hP.n1 zc4; omega)) ?_)
          rw [fE_57]
          refine zr_iadd hE eX12_readsNumber_51 ?_
          refine zr_bipush hE eX12_readsNumber_52 (v := 48) (by decide) ?_
          refine zr_isub hE eX12_readsNumber_54 ?_
          refine zr_istore_n hE eX12_readsNumber_55 (by decide) rfl ?_
          refine zr_aload_n hE eX12_readsNumber_56 rfl ?_
          refine zr_dup hE eX12_readsNumber_57 rfl ?_
          refine zr_getI hE eX12_readsNumber_58 fX12_93 zs57 rfl ?_
          refine zr_iconst hE eX12_readsNumber_61 (v := 1) (by decide) ?_
          rw [wu_eq]
          refine zr_iadd hE eX12_readsNumber_62 ?_
          show G _ _ (.int (nI (p + 1) + 1) :: _) _
          rw [nI_1]
          refine zr_put hE eX12_readsNumber_63 gX12_93 zs57 rfl rfl rfl ?_
          try rw [wu_wu]
          refine zr_aload_n hE eX12_readsNumber_66 rfl ?_
          refine zr_getR hE eX12_readsNumber_67 fX12_37 zs57 rfl ?_
          refine zr_aload_n hE eX12_readsNumber_70 rfl ?_
          refine zr_getI hE eX12_readsNumber_71 fX12_113 zs57 rfl ?_
          rw [wu_nj (by decide), htw]
          refine zr_iload_n hE eX12_readsNumber_74 rfl ?_
          refine zr_iast hE eX12_readsNumber_75 zs67 (vpn ht (by decide)) ?_
          rw [nI_clamp (show t < 2 ^ 31 by omega)]
          refine zr_aload_n hE eX12_readsNumber_76 rfl ?_
          refine zr_dup hE eX12_readsNumber_77 rfl ?_
          refine zr_getI hE eX12_readsNumber_78 fX12_113 zs57 rfl ?_
          refine zr_iconst hE eX12_readsNumber_81 (v := 1) (by decide) ?_
          rw [wu_ne (by decide), wu_nj (by decide), htw]
          refine zr_iadd hE eX12_readsNumber_82 ?_
          show G _ _ (.int (nI t + 1) :: _) _
          rw [nI_1]
          refine zr_put hE eX12_readsNumber_83 gX12_113 zs57 rfl rfl rfl ?_
          refine zr_iconst hE eX12_readsNumber_86 (v := 1) (by decide) ?_
          refine hR.2.1 _ _ _ _ _ _ eX12_readsNumber_87 rfl rfl ?_
          have xr : rnF (fE w dn) n m p = some (p + 2, 10 * (hrF (fE w dn) n p - 48) + hrF (fE w dn) n (p + 1) - 48) := by unfold rnF; rw [if_pos zc4, if_pos ⟨zc29, zc33, zc40⟩]
          have q := hQ _ (by rw [xr]; exact Rn_mk)
          rw [xr] at q
          exact q
  · refine zr_iconst hE eX12_readsNumber_7 (v := 0) (by decide) ?_
    refine hR.2.1 _ _ _ _ _ _ eX12_readsNumber_8 rfl rfl ?_
    have xr : rnF (fE w dn) n m p = none := by unfold rnF; rw [if_neg (fun q => by rw [zc4] at q; cases q)]
    have q := hQ w (by rw [xr]; exact rfl)
    rw [xr] at q
    exact q

