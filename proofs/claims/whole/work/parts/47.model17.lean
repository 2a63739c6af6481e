/-! The reference: judge. -/
theorem fIs7 {d : Int32} (h : fIs d 0 7 = true) : ∃ dn, dn < 8 ∧ d = nI dn := by
  simp only [fIs, Bool.and_eq_true, decide_eq_true_eq] at h
  obtain ⟨a, ha, rfl⟩ := nI_of (x := d) (fun q => absurd (Int32.lt_of_le_of_lt h.1 q) (by decide))
  have h2 := h.2
  rw [show (7 : Int32) = nI 7 from rfl, nI_leI ha (by decide)] at h2
  exact ⟨a, by omega, rfl⟩
theorem mrR_0 {w : ww} {d s : Int32} (h : mrR w d s = 0) : ∃ dn, dn < 8 ∧ d = nI dn := by
  unfold mrR at h
  split at h
  · cases h
  · rename_i q; exact fIs7 (by simpa using q)
/-- sizes are no more than 100 -/
def Msz (w : ww) : Prop := ∀ dn, dn < 8 → ∃ n, n ≤ 100 ∧ w 63 dn = nI n
def mfW (w : ww) (c dn : Nat) : Int32 := fmF (fE w dn) (nI c) (fun a b => fLi (mB w) a b (w 58 1)) (w 63 dn).toNatClampNeg 0 0
theorem c_wrongAt2 {c dn : Nat} {w : ww} {Q : Option Value → ww → Prop} (hM : Mow w c) (hZ : Msz w) (hd : dn < 8) (hQ1 : 0 ≤ mfW w c dn → Q (some (.int (mfW w c dn))) w) (hQ2 : ¬ 0 ≤ mfW w c dn → Q (some (.int (-4))) w) : Ct mX12_wrongAt 7 [.ref 57, .int (nI dn)] w Q := by
  obtain ⟨n, hn1, hn2⟩ := hZ dn hd
  refine c_X12_wrongAt (r := mfW w c dn) hM hd hn1 hn2 ?_ hQ1 hQ2
  unfold mfW; rw [hn2, nI_clamp (by omega)]
set_option maxHeartbeats 4000000 in
theorem c_X12_judge {c : Nat} {d : Int32} {w : ww} {Q : Option Value → ww → Prop} (hM : Mow w c) (hZ : Msz w) (hQ0 : ¬ mrR w d (-1) = 0 → Q (some (.int (mrR w d (-1)))) w) (hQ1 : ∀ dn, dn < 8 → d = nI dn → mrR w d (-1) = 0 → 0 ≤ mfW w c dn → Q (some (.int (mfW w c dn))) w) (hQ2 : ∀ dn, dn < 8 → d = nI dn → mrR w d (-1) = 0 → ¬ 0 ≤ mfW w c dn → Q (some (.int (-4))) w) : Ct mX12_judge 8 [.ref 57, .int d] w Q := by
  refine Ct.of (by decide) (Nat.le_of_ble_eq_true rfl) (fun _ => Nat.le_of_ble_eq_true rfl) (fun G hR => ?_)
  have hE := hR.1
  refine zr_aload_n hE eX12_judge_0 rfl ?_
  refine zr_iload_n hE eX12_judge_1 rfl ?_
  refine zr_iconst hE eX12_judge_2 (v := -1) (by decide) ?_
  refine zr_callV2 hE eX12_judge_3 lX12_132 zs57 rfl rfl (by decide) (Nat.le_of_ble_eq_true rfl) (c_X12_wrongRow ?_)
  refine zr_istore_n hE eX12_judge_6 (by decide) rfl ?_
  refine zr_iload_n hE eX12_judge_7 rfl ?_
  refine zr_if_eq hE eX12_judge_8 (tgt := 15) (by decide) (fun zc8 => ?_) (fun zc8 => ?_)
  · obtain ⟨dn, hdn, rfl⟩ := mrR_0 zc8
    refine zr_aload_n hE eX12_judge_15 rfl ?_
    refine zr_iload_n hE eX12_judge_16 rfl ?_
    refine zr_callV1 hE eX12_judge_17 lX12_202 zs57 rfl rfl (by decide) (Nat.le_of_ble_eq_true rfl) (c_wrongAt2 hM hZ hdn (fun q => ?_) (fun q => ?_))
    · refine hR.2.1 _ _ _ _ _ _ eX12_judge_20 rfl rfl ?_
      exact hQ1 dn hdn rfl zc8 q
    · refine hR.2.1 _ _ _ _ _ _ eX12_judge_20 rfl rfl ?_
      exact hQ2 dn hdn rfl zc8 q
  · refine zr_iload_n hE eX12_judge_11 rfl ?_
    refine zr_goto hE eX12_judge_12 (tgt := 20) (by decide) ?_
    refine hR.2.1 _ _ _ _ _ _ eX12_judge_20 rfl rfl ?_
    exact hQ0 zc8

