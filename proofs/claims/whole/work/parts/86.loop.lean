/-! The law's loop. -/
theorem len6 {len j : Nat} (hL2 : len ≤ 3072) (hj : 6 * j ≤ len) (h : ¬ nI len - nI 6 < nI (6 * j)) : 6 * j + 6 ≤ len := by
  by_cases h6 : 6 ≤ len
  · rw [nI_subN h6] at h
    have h2 : nI (6 * j) ≤ nI (len - 6) := Int32.not_lt.mp h
    rw [nI_leI (by omega) (by omega)] at h2
    omega
  · obtain rfl : j = 0 := by omega
    exfalso
    refine h ?_
    have hc : len = 0 ∨ len = 1 ∨ len = 2 ∨ len = 3 ∨ len = 4 ∨ len = 5 := by omega
    rcases hc with rfl | rfl | rfl | rfl | rfl | rfl <;> decide
set_option maxHeartbeats 4000000 in
theorem law_loop {len : Nat} {xs : Nat → Int32} {Gc : Nat → Nat → zG} (hW : yLW len xs Gc) (hL2 : len ≤ 3072) : ∀ (n j ce sl : Nat) (w : ww), 6 * j ≤ len → len < 6 * j + 6 * n → ce + n ≤ 601024 → sl + 6 * n ≤ 7293034 → Inv w → Gc ce sl 23 (Lj j) [] w := by
  intro n
  induction n with
  | zero => intro j ce sl w h1 h2; exact absurd h2 (by omega)
  | succ n ih =>
    intro j ce sl w hj hn hc hs hI
    have hE := hW.zE (ce := ce) (sl := sl) (by omega) (by omega)
    have hE1 := hW.zE (ce := ce + 1) (sl := sl + 6) (by omega) (by omega)
    refine zr_iload hE eL_law_23 rfl ?_
    refine zr_aload_n hE eL_law_25 rfl ?_
    refine hW.len eL_law_26 ?_
    refine zr_bipush hE eL_law_27 (v := nI 6) (by decide) ?_
    refine zr_isub hE eL_law_29 ?_
    refine zr_icmp_gt hE eL_law_30 (tgt := 1296) (by decide) (fun _ => ?_) (fun hg => ?_)
    · refine zr_iconst hE eL_law_1296 (v := 1) (by decide) ?_
      exact hW.ret (by omega) (by omega) eL_law_1297
    · have hL := len6 hL2 hj hg
      have kb : ∀ w2, Inv w2 → Gc (ce + 1) (sl + 6) 1290 (Lj j) [] w2 := fun w2 hI2 => by
        refine zr_iinc hE1 eL_law_1290 rfl (v := nI (6 * (j + 1))) (by rw [show Int32.ofInt 6 = nI 6 by decide, nI_add]; rfl) (by decide) rfl ?_
        refine zr_goto hE1 eL_law_1293 (tgt := 23) (by decide) ?_
        exact ih (j + 1) (ce + 1) (sl + 6) w2 (by omega) (by omega) (by omega) (by omega) hI2
      refine zr_aload_n hE eL_law_33 rfl ?_
      refine zr_iload hE eL_law_34 rfl ?_
      refine hW.ld eL_law_36 (vpn (by omega) (by omega)) ?_
      refine zr_bipush hE eL_law_37 (v := 31) (by decide) ?_
      refine zr_iand hE eL_law_39 ?_
      generalize xs (nI (6 * j)).toNatClampNeg &&& 31 = x
      refine zr_tswK hE eL_law_40 (0) (144) 184 (0) (by decide) (by decide) (by decide) (by decide) (by decide) (fun _ => lc_heap hW (by omega) (by omega) hL hL2 hI kb) (fun zk0 => ?_)
      refine zr_tswK hE eL_law_40 (1) (169) 209 (1) (by decide) (by decide) (by decide) (by decide) (by decide) (fun _ => lc_bowl hW (by omega) (by omega) hL hL2 hI kb) (fun zk1 => ?_)
      refine zr_tswK hE eL_law_40 (2) (206) 246 (2) (by decide) (by decide) (by decide) (by decide) (by decide) (fun _ => lc_comes hW (by omega) (by omega) hL hL2 hI kb) (fun zk2 => ?_)
      refine zr_tswK hE eL_law_40 (3) (267) 307 (3) (by decide) (by decide) (by decide) (by decide) (by decide) (fun _ => lc_warm hW (by omega) (by omega) hL hL2 hI kb) (fun zk3 => ?_)
      refine zr_tswK hE eL_law_40 (4) (292) 332 (4) (by decide) (by decide) (by decide) (by decide) (by decide) (fun _ => lc_turn hW (by omega) (by omega) hL hL2 hI kb) (fun zk4 => ?_)
      refine zr_tswK hE eL_law_40 (5) (317) 357 (5) (by decide) (by decide) (by decide) (by decide) (by decide) (fun _ => lc_lies hW (by omega) (by omega) hL hL2 hI kb) (fun zk5 => ?_)
      refine zr_tswK hE eL_law_40 (6) (354) 394 (6) (by decide) (by decide) (by decide) (by decide) (by decide) (fun _ => lc_nest hW (by omega) (by omega) hL hL2 hI kb) (fun zk6 => ?_)
      refine zr_tswK hE eL_law_40 (7) (379) 419 (7) (by decide) (by decide) (by decide) (by decide) (by decide) (fun _ => lc_height hW (by omega) (by omega) hL hL2 hI kb) (fun zk7 => ?_)
      refine zr_tswK hE eL_law_40 (8) (404) 444 (8) (by decide) (by decide) (by decide) (by decide) (by decide) (fun _ => lc_longest hW (by omega) (by omega) hL hL2 hI kb) (fun zk8 => ?_)
      refine zr_tswK hE eL_law_40 (9) (441) 481 (9) (by decide) (by decide) (by decide) (by decide) (by decide) (fun _ => lc_fewest hW (by omega) (by omega) hL hL2 hI kb) (fun zk9 => ?_)
      refine zr_tswK hE eL_law_40 (10) (454) 494 (10) (by decide) (by decide) (by decide) (by decide) (by decide) (fun _ => lc_apart hW (by omega) (by omega) hL hL2 hI kb) (fun zk10 => ?_)
      refine zr_tswK hE eL_law_40 (11) (479) 519 (11) (by decide) (by decide) (by decide) (by decide) (by decide) (fun _ => lc_carry hW (by omega) (by omega) hL hL2 hI kb) (fun zk11 => ?_)
      refine zr_tswK hE eL_law_40 (12) (492) 532 (12) (by decide) (by decide) (by decide) (by decide) (by decide) (fun _ => lc_load hW (by omega) (by omega) hL hL2 hI kb) (fun zk12 => ?_)
      refine zr_tswK hE eL_law_40 (13) (517) 557 (13) (by decide) (by decide) (by decide) (by decide) (by decide) (fun _ => lc_whole hW (by omega) (by omega) hL hL2 hI kb) (fun zk13 => ?_)
      refine zr_tswK hE eL_law_40 (14) (542) 582 (14) (by decide) (by decide) (by decide) (by decide) (by decide) (fun _ => lc_throwsNew hW (by omega) (by omega) hL hL2 hI kb) (fun zk14 => ?_)
      refine zr_tswK hE eL_law_40 (15) (555) 595 (15) (by decide) (by decide) (by decide) (by decide) (by decide) (fun _ => lc_helps hW (by omega) (by omega) hL hL2 hI kb) (fun zk15 => ?_)
      refine zr_tswK hE eL_law_40 (16) (592) 632 (16) (by decide) (by decide) (by decide) (by decide) (by decide) (fun _ => lc_out hW (by omega) (by omega) hL hL2 hI kb) (fun zk16 => ?_)
      refine zr_tswK hE eL_law_40 (17) (629) 669 (17) (by decide) (by decide) (by decide) (by decide) (by decide) (fun _ => lc_judge hW (by omega) (by omega) hL hL2 hI kb) (fun zk17 => ?_)
      refine zr_tswK hE eL_law_40 (18) (654) 694 (18) (by decide) (by decide) (by decide) (by decide) (by decide) (fun _ => lc_spans hW (by omega) (by omega) hL hL2 hI kb) (fun zk18 => ?_)
      refine zr_tswK hE eL_law_40 (19) (703) 743 (19) (by decide) (by decide) (by decide) (by decide) (by decide) (fun _ => lc_next hW (by omega) (by omega) hL hL2 hI kb) (fun zk19 => ?_)
      refine zr_tswK hE eL_law_40 (20) (740) 780 (20) (by decide) (by decide) (by decide) (by decide) (by decide) (fun _ => lc_from hW (by omega) (by omega) hL hL2 hI kb) (fun zk20 => ?_)
      refine zr_tswK hE eL_law_40 (21) (801) 841 (21) (by decide) (by decide) (by decide) (by decide) (by decide) (fun _ => lc_breaks hW (by omega) (by omega) hL hL2 hI kb) (fun zk21 => ?_)
      refine zr_tswK hE eL_law_40 (22) (850) 890 (22) (by decide) (by decide) (by decide) (by decide) (by decide) (fun _ => lc_image hW (by omega) (by omega) hL hL2 hI kb) (fun zk22 => ?_)
      refine zr_tswK hE eL_law_40 (23) (863) 903 (23) (by decide) (by decide) (by decide) (by decide) (by decide) (fun _ => lc_restore hW (by omega) (by omega) hL hL2 hI kb) (fun zk23 => ?_)
      refine zr_tswK hE eL_law_40 (24) (876) 916 (24) (by decide) (by decide) (by decide) (by decide) (by decide) (fun _ => lc_count hW (by omega) (by omega) hL hL2 hI kb) (fun zk24 => ?_)
      refine zr_tswK hE eL_law_40 (25) (901) 941 (25) (by decide) (by decide) (by decide) (by decide) (by decide) (fun _ => lc_keep hW (by omega) (by omega) hL hL2 hI kb) (fun zk25 => ?_)
      refine zr_tswK hE eL_law_40 (26) (962) 1002 (26) (by decide) (by decide) (by decide) (by decide) (by decide) (fun _ => lc_row hW (by omega) (by omega) hL hL2 hI kb) (fun zk26 => ?_)
      refine zr_tswK hE eL_law_40 (27) (1011) 1051 (27) (by decide) (by decide) (by decide) (by decide) (by decide) (fun _ => lc_put hW (by omega) (by omega) hL hL2 hI kb) (fun zk27 => ?_)
      refine zr_tswK hE eL_law_40 (28) (1060) 1100 (28) (by decide) (by decide) (by decide) (by decide) (by decide) (fun _ => lc_element hW (by omega) (by omega) hL hL2 hI kb) (fun zk28 => ?_)
      refine zr_tswK hE eL_law_40 (29) (1127) 1167 (29) (by decide) (by decide) (by decide) (by decide) (by decide) (fun _ => lc_copy hW (by omega) (by omega) hL hL2 hI kb) (fun zk29 => ?_)
      refine zr_tswK hE eL_law_40 (30) (1200) 1240 (30) (by decide) (by decide) (by decide) (by decide) (by decide) (fun _ => lc_price hW (by omega) (by omega) hL hL2 hI kb) (fun zk30 => ?_)
      refine zr_tswK hE eL_law_40 (31) (1225) 1265 (31) (by decide) (by decide) (by decide) (by decide) (by decide) (fun _ => lc_toss hW (by omega) (by omega) hL hL2 hI kb) (fun zk31 => ?_)
      refine zr_tableOut hE eL_law_40 (tgt := 1290) ?_ (by decide) ?_
      · have zm0 := zne zk0 (v := 0) (by decide); have zm1 := zne zk1 (v := 1) (by decide); have zm2 := zne zk2 (v := 2) (by decide); have zm3 := zne zk3 (v := 3) (by decide); have zm4 := zne zk4 (v := 4) (by decide); have zm5 := zne zk5 (v := 5) (by decide); have zm6 := zne zk6 (v := 6) (by decide); have zm7 := zne zk7 (v := 7) (by decide); have zm8 := zne zk8 (v := 8) (by decide); have zm9 := zne zk9 (v := 9) (by decide); have zm10 := zne zk10 (v := 10) (by decide); have zm11 := zne zk11 (v := 11) (by decide); have zm12 := zne zk12 (v := 12) (by decide); have zm13 := zne zk13 (v := 13) (by decide); have zm14 := zne zk14 (v := 14) (by decide); have zm15 := zne zk15 (v := 15) (by decide); have zm16 := zne zk16 (v := 16) (by decide); have zm17 := zne zk17 (v := 17) (by decide); have zm18 := zne zk18 (v := 18) (by decide); have zm19 := zne zk19 (v := 19) (by decide); have zm20 := zne zk20 (v := 20) (by decide); have zm21 := zne zk21 (v := 21) (by decide); have zm22 := zne zk22 (v := 22) (by decide); have zm23 := zne zk23 (v := 23) (by decide); have zm24 := zne zk24 (v := 24) (by decide); have zm25 := zne zk25 (v := 25) (by decide); have zm26 := zne zk26 (v := 26) (by decide); have zm27 := zne zk27 (v := 27) (by decide); have zm28 := zne zk28 (v := 28) (by decide); have zm29 := zne zk29 (v := 29) (by decide); have zm30 := zne zk30 (v := 30) (by decide); have zm31 := zne zk31 (v := 31) (by decide); omega
      · exact hW.widen (Nat.le_succ _) (Nat.le_add_right _ _) (kb w hI)
theorem Inv0 : Inv (fun _ _ => 0) := by
  refine ⟨⟨0, ⟨by decide, rfl, ⟨0, by decide, rfl⟩, fun b hb => absurd hb (by omega)⟩, rfl, rfl, fun k b _ hb => absurd hb (by omega)⟩, ⟨rfl, fun q => absurd rfl q⟩, fun d _ => ⟨rfl, Or.inl rfl⟩, fun d _ => ⟨0, by decide, rfl⟩⟩
