/-! What the kinds of bowls say, and the contracts of their methods. -/
def outK (k hairs f t : Int32) : Int32 := match k.toNatClampNeg with
  | 1 => hairs + (if t = 1 then f else 0)
  | 2 => if hairs - f < 1 then 1 else hairs - f
  | 4 => hairs + (if t = 1 then f else 0) + 1
  | 5 => hairs + 2
  | 7 => if hairs - f < 1 then 1 else hairs - f
  | _ => hairs
def inK (k hairs f t warm : Int32) : Int32 := match k.toNatClampNeg with
  | 1 => hairs - 2 - warm + (if t = 1 then f else 0)
  | 2 => 0
  | 3 => hairs - 2 - warm - 1
  | 4 => hairs - 2 - warm + (if t = 1 then f else 0)
  | 5 => hairs - 2 - warm - 1 - f
  | 6 => hairs - 2 - warm - 1
  | 7 => 0
  | _ => hairs - 2 - warm
def riK (k f : Int32) : Int32 := match k.toNatClampNeg with
  | 2 => 2
  | 3 => 1 + f
  | 5 => 1 + f
  | 6 => 2 + 2 * f
  | _ => 1
def coK (k f : Int32) : Int32 := match k.toNatClampNeg with
  | 1 => 4 + f
  | 2 => 3
  | 3 => 8
  | 4 => (4 + f) / 2
  | 5 => 8 - f
  | 6 => 13
  | 7 => 3 * (f + 1)
  | _ => 4
def miK (k : Int32) : Bool := k == 1 || k == 4
def zLm (own : String) (idx : Nat) (M : zM) : Prop := Cond.methodLink own idx M.1 ∈ big ∧ Cond.code M.1 M.2.1 M.2.2.1 M.2.2.2 ∈ big ∧ Cond.initialized M.1.cls ∈ big ∧ Cond.static M.1 ∈ big
def mx (a b : Int32) : Int32 := if a < b then b else a
def mn (a b : Int32) : Int32 := if b < a then b else a
theorem mx_one (a : Int32) : mx 1 a = if a < 1 then 1 else a := by
  unfold mx
  by_cases h : a < 1
  · rw [if_pos h, if_neg]
    intro q
    rw [Int32.lt_iff_toInt_lt] at h q
    omega
  · rw [if_neg h]
    by_cases g : 1 < a
    · rw [if_pos g]
    · rw [if_neg g]
      apply Int32.toInt_inj.mp
      rw [Int32.lt_iff_toInt_lt] at h g
      omega
theorem zr_mmax {own : String} {cc : ByteArray} {nL n : Nat} {G : zG} {pc np : Nat} {L : zL} {S : List Value} {w : ww} (h : zE own cc nL n G) {idx : Nat} {x y : Int32} (hd : zD cc pc (.invokestatic idx) 3 np) (hl : zLm own idx mJ9_max_7cf53) (hn : 1 ≤ n) (hcat : zcat S ≤ 8) (kk : G np L (.int (mx x y) :: S) w) : G pc L (.int y :: .int x :: S) w := by
  refine h.elim fun p l e R s m args below meth c φ cA D A H0 cells slots Qm Ts hG hC hB hK hA hn1 hn2 hn3 hn4 => ?_
  subst hG
  obtain ⟨hx, hb, hml, hown, hts⟩ := hC
  obtain ⟨hd, rfl⟩ := hd
  intro ls H locs hls hP hD hS
  obtain ⟨hlk, hcode, hini, hstat⟩ := hl
  exact va_mmax hx hb (hml.trans hls.1.symm) hown (hts _ (hB _ hlk)) (hts _ (hB _ hstat)) (hts _ (hB _ hini)) (hts _ (hB _ hcode)) (by omega) (by rw [zcat_tv]; omega) hn3 hn4 hd (kk ls H locs hls hP hD hS)
theorem zr_mmin {own : String} {cc : ByteArray} {nL n : Nat} {G : zG} {pc np : Nat} {L : zL} {S : List Value} {w : ww} (h : zE own cc nL n G) {idx : Nat} {x y : Int32} (hd : zD cc pc (.invokestatic idx) 3 np) (hl : zLm own idx mJ9_min_7cf53) (hn : 1 ≤ n) (hcat : zcat S ≤ 8) (kk : G np L (.int (mn x y) :: S) w) : G pc L (.int y :: .int x :: S) w := by
  refine h.elim fun p l e R s m args below meth c φ cA D A H0 cells slots Qm Ts hG hC hB hK hA hn1 hn2 hn3 hn4 => ?_
  subst hG
  obtain ⟨hx, hb, hml, hown, hts⟩ := hC
  obtain ⟨hd, rfl⟩ := hd
  intro ls H locs hls hP hD hS
  obtain ⟨hlk, hcode, hini, hstat⟩ := hl
  exact va_mmin hx hb (hml.trans hls.1.symm) hown (hts _ (hB _ hlk)) (hts _ (hB _ hstat)) (hts _ (hB _ hini)) (hts _ (hB _ hcode)) (by omega) (by rw [zcat_tv]; omega) hn3 hn4 hd (kk ls H locs hls hP hD hS)
theorem lmX5_109 : zLm RX5 109 mJ9_max_7cf53 := ⟨big_in (List.mem_of_getElem? (i := 642) (by decide +kernel)) rfl, ckJ9_max_7cf53, ikRJ9, skJ9_max_7cf53⟩
theorem lmX6_11 : zLm RX6 11 mJ9_max_7cf53 := ⟨big_in (List.mem_of_getElem? (i := 343) (by decide +kernel)) rfl, ckJ9_max_7cf53, ikRJ9, skJ9_max_7cf53⟩
theorem lmX7_42 : zLm RX7 42 mJ9_min_7cf53 := ⟨big_in (List.mem_of_getElem? (i := 508) (by decide +kernel)) rfl, ckJ9_min_7cf53, ikRJ9, skJ9_min_7cf53⟩
theorem lmX7_106 : zLm RX7 106 mJ9_max_7cf53 := ⟨big_in (List.mem_of_getElem? (i := 608) (by decide +kernel)) rfl, ckJ9_max_7cf53, ikRJ9, skJ9_max_7cf53⟩
set_option maxHeartbeats 4000000 in
theorem c_X0_outside {o ci : Nat} {fl : List (Option Nat)} {q : vw_C}{hairs f t : Int32} {w : ww} {Q : Option Value → ww → Prop} (hs : zshapes[o]? = some (zob ci fl)) (hq : vwCl[ci]? = some q) (hQ : Q (some (.int (hairs))) w) : Ct mX0_outside 1 [.ref o, .int hairs, .int f, .int t] w Q := by
  refine Ct.of (by decide) (Nat.le_of_ble_eq_true rfl) (fun _ => Nat.le_of_ble_eq_true rfl) (fun G hR => ?_)
  have hE := hR.1
  refine zr_iload_n hE eX0_outside_0 rfl ?_
  refine hR.2.1 _ _ _ _ _ _ eX0_outside_1 rfl rfl ?_
  exact hQ

set_option maxHeartbeats 4000000 in
theorem c_X8_outside {o ci : Nat} {fl : List (Option Nat)} {q : vw_C}{hairs f t : Int32} {w : ww} {Q : Option Value → ww → Prop} (hs : zshapes[o]? = some (zob ci fl)) (hq : vwCl[ci]? = some q) (hQ : Q (some (.int (hairs + (if t = 1 then f else 0)))) w) : Ct mX8_outside 2 [.ref o, .int hairs, .int f, .int t] w Q := by
  refine Ct.of (by decide) (Nat.le_of_ble_eq_true rfl) (fun _ => Nat.le_of_ble_eq_true rfl) (fun G hR => ?_)
  have hE := hR.1
  refine zr_aload_n hE eX8_outside_0 rfl ?_
  refine zr_iload_n hE eX8_outside_1 rfl ?_
  refine zr_iload_n hE eX8_outside_2 rfl ?_
  refine zr_iload_n hE eX8_outside_3 rfl ?_
  refine zr_callP3 hE eX8_outside_4 lX8_7 hs hq (by decide) (Nat.le_of_ble_eq_true rfl) (c_X0_outside hs hq ?_)
  refine zr_iload_n hE eX8_outside_7 rfl ?_
  refine zr_iconst hE eX8_outside_8 (v := 1) (by decide) ?_
  refine zr_icmp_ne hE eX8_outside_9 (tgt := 16) (by decide) (fun zc9 => ?_) (fun zc9 => ?_)
  · refine zr_iconst hE eX8_outside_16 (v := 0) (by decide) ?_
    refine zr_iadd hE eX8_outside_17 ?_
    refine hR.2.1 _ _ _ _ _ _ eX8_outside_18 rfl rfl ?_
    exact zq hQ (by simp [*])
  · refine zr_iload_n hE eX8_outside_12 rfl ?_
    refine zr_goto hE eX8_outside_13 (tgt := 17) (by decide) ?_
    refine zr_iadd hE eX8_outside_17 ?_
    refine hR.2.1 _ _ _ _ _ _ eX8_outside_18 rfl rfl ?_
    exact zq hQ (by simp [*])

set_option maxHeartbeats 4000000 in
theorem c_X6_outside {o ci : Nat} {fl : List (Option Nat)} {q : vw_C}{hairs f t : Int32} {w : ww} {Q : Option Value → ww → Prop} (hs : zshapes[o]? = some (zob ci fl)) (hq : vwCl[ci]? = some q) (hQ : Q (some (.int (if hairs - f < 1 then 1 else hairs - f))) w) : Ct mX6_outside 2 [.ref o, .int hairs, .int f, .int t] w Q := by
  refine Ct.of (by decide) (Nat.le_of_ble_eq_true rfl) (fun _ => Nat.le_of_ble_eq_true rfl) (fun G hR => ?_)
  have hE := hR.1
  refine zr_iconst hE eX6_outside_0 (v := 1) (by decide) ?_
  refine zr_aload_n hE eX6_outside_1 rfl ?_
  refine zr_iload_n hE eX6_outside_2 rfl ?_
  refine zr_iload_n hE eX6_outside_3 rfl ?_
  refine zr_iload_n hE eX6_outside_4 rfl ?_
  refine zr_callP3 hE eX6_outside_5 lX6_7 hs hq (by decide) (Nat.le_of_ble_eq_true rfl) (c_X0_outside hs hq ?_)
  refine zr_iload_n hE eX6_outside_8 rfl ?_
  refine zr_isub hE eX6_outside_9 ?_
  refine zr_mmax hE eX6_outside_10 lmX6_11 (by decide) (Nat.le_of_ble_eq_true rfl) ?_
  refine hR.2.1 _ _ _ _ _ _ eX6_outside_13 rfl rfl ?_
  exact zq hQ (mx_one _).symm

set_option maxHeartbeats 4000000 in
theorem c_X9_outside {o ci : Nat} {fl : List (Option Nat)} {q : vw_C}{hairs f t : Int32} {w : ww} {Q : Option Value → ww → Prop} (hs : zshapes[o]? = some (zob ci fl)) (hq : vwCl[ci]? = some q) (hQ : Q (some (.int (hairs + (if t = 1 then f else 0) + 1))) w) : Ct mX9_outside 3 [.ref o, .int hairs, .int f, .int t] w Q := by
  refine Ct.of (by decide) (Nat.le_of_ble_eq_true rfl) (fun _ => Nat.le_of_ble_eq_true rfl) (fun G hR => ?_)
  have hE := hR.1
  refine zr_aload_n hE eX9_outside_0 rfl ?_
  refine zr_iload_n hE eX9_outside_1 rfl ?_
  refine zr_iload_n hE eX9_outside_2 rfl ?_
  refine zr_iload_n hE eX9_outside_3 rfl ?_
  refine zr_callP3 hE eX9_outside_4 lX9_7 hs hq (by decide) (Nat.le_of_ble_eq_true rfl) (c_X8_outside hs hq ?_)
  refine zr_iconst hE eX9_outside_7 (v := 1) (by decide) ?_
  refine zr_iadd hE eX9_outside_8 ?_
  refine hR.2.1 _ _ _ _ _ _ eX9_outside_9 rfl rfl ?_
  exact hQ

set_option maxHeartbeats 4000000 in
theorem c_X4_outside {o ci : Nat} {fl : List (Option Nat)} {q : vw_C}{hairs f t : Int32} {w : ww} {Q : Option Value → ww → Prop} (hs : zshapes[o]? = some (zob ci fl)) (hq : vwCl[ci]? = some q) (hQ : Q (some (.int (hairs + 2))) w) : Ct mX4_outside 2 [.ref o, .int hairs, .int f, .int t] w Q := by
  refine Ct.of (by decide) (Nat.le_of_ble_eq_true rfl) (fun _ => Nat.le_of_ble_eq_true rfl) (fun G hR => ?_)
  have hE := hR.1
  refine zr_aload_n hE eX4_outside_0 rfl ?_
  refine zr_iload_n hE eX4_outside_1 rfl ?_
  refine zr_iload_n hE eX4_outside_2 rfl ?_
  refine zr_iload_n hE eX4_outside_3 rfl ?_
  refine zr_callP3 hE eX4_outside_4 lX4_7 hs hq (by decide) (Nat.le_of_ble_eq_true rfl) (c_X0_outside hs hq ?_)
  refine zr_iconst hE eX4_outside_7 (v := 2) (by decide) ?_
  refine zr_iadd hE eX4_outside_8 ?_
  refine hR.2.1 _ _ _ _ _ _ eX4_outside_9 rfl rfl ?_
  exact hQ

set_option maxHeartbeats 4000000 in
theorem c_X0_inside {o ci : Nat} {fl : List (Option Nat)} {q : vw_C}{hairs f t warm : Int32} {w : ww} {Q : Option Value → ww → Prop} (hs : zshapes[o]? = some (zob ci fl)) (hq : vwCl[ci]? = some q) (hQ : Q (some (.int (hairs - 2 - warm))) w) : Ct mX0_inside 1 [.ref o, .int hairs, .int f, .int t, .int warm] w Q := by
  refine Ct.of (by decide) (Nat.le_of_ble_eq_true rfl) (fun _ => Nat.le_of_ble_eq_true rfl) (fun G hR => ?_)
  have hE := hR.1
  refine zr_iload_n hE eX0_inside_0 rfl ?_
  refine zr_iconst hE eX0_inside_1 (v := 2) (by decide) ?_
  refine zr_isub hE eX0_inside_2 ?_
  refine zr_iload hE eX0_inside_3 rfl ?_
  refine zr_isub hE eX0_inside_5 ?_
  refine hR.2.1 _ _ _ _ _ _ eX0_inside_6 rfl rfl ?_
  exact hQ

set_option maxHeartbeats 4000000 in
theorem c_X8_inside {o ci : Nat} {fl : List (Option Nat)} {q : vw_C}{hairs f t warm : Int32} {w : ww} {Q : Option Value → ww → Prop} (hs : zshapes[o]? = some (zob ci fl)) (hq : vwCl[ci]? = some q) (hQ : Q (some (.int (hairs - 2 - warm + (if t = 1 then f else 0)))) w) : Ct mX8_inside 2 [.ref o, .int hairs, .int f, .int t, .int warm] w Q := by
  refine Ct.of (by decide) (Nat.le_of_ble_eq_true rfl) (fun _ => Nat.le_of_ble_eq_true rfl) (fun G hR => ?_)
  have hE := hR.1
  refine zr_aload_n hE eX8_inside_0 rfl ?_
  refine zr_iload_n hE eX8_inside_1 rfl ?_
  refine zr_iload_n hE eX8_inside_2 rfl ?_
  refine zr_iload_n hE eX8_inside_3 rfl ?_
  refine zr_iload hE eX8_inside_4 rfl ?_
  refine zr_callP4 hE eX8_inside_6 lX8_11 hs hq (by decide) (Nat.le_of_ble_eq_true rfl) (c_X0_inside hs hq ?_)
  refine zr_iload_n hE eX8_inside_9 rfl ?_
  refine zr_iconst hE eX8_inside_10 (v := 1) (by decide) ?_
  refine zr_icmp_ne hE eX8_inside_11 (tgt := 18) (by decide) (fun zc11 => ?_) (fun zc11 => ?_)
  · refine zr_iconst hE eX8_inside_18 (v := 0) (by decide) ?_
    refine zr_iadd hE eX8_inside_19 ?_
    refine hR.2.1 _ _ _ _ _ _ eX8_inside_20 rfl rfl ?_
    exact zq hQ (by simp [*])
  · refine zr_iload_n hE eX8_inside_14 rfl ?_
    refine zr_goto hE eX8_inside_15 (tgt := 19) (by decide) ?_
    refine zr_iadd hE eX8_inside_19 ?_
    refine hR.2.1 _ _ _ _ _ _ eX8_inside_20 rfl rfl ?_
    exact zq hQ (by simp [*])

set_option maxHeartbeats 4000000 in
theorem c_X6_inside {o ci : Nat} {fl : List (Option Nat)} {q : vw_C}{hairs f t warm : Int32} {w : ww} {Q : Option Value → ww → Prop} (hs : zshapes[o]? = some (zob ci fl)) (hq : vwCl[ci]? = some q) (hQ : Q (some (.int (0))) w) : Ct mX6_inside 1 [.ref o, .int hairs, .int f, .int t, .int warm] w Q := by
  refine Ct.of (by decide) (Nat.le_of_ble_eq_true rfl) (fun _ => Nat.le_of_ble_eq_true rfl) (fun G hR => ?_)
  have hE := hR.1
  refine zr_iconst hE eX6_inside_0 (v := 0) (by decide) ?_
  refine hR.2.1 _ _ _ _ _ _ eX6_inside_1 rfl rfl ?_
  exact hQ

set_option maxHeartbeats 4000000 in
theorem c_X3_inside {o ci : Nat} {fl : List (Option Nat)} {q : vw_C}{hairs f t warm : Int32} {w : ww} {Q : Option Value → ww → Prop} (hs : zshapes[o]? = some (zob ci fl)) (hq : vwCl[ci]? = some q) (hQ : Q (some (.int (hairs - 2 - warm - 1))) w) : Ct mX3_inside 2 [.ref o, .int hairs, .int f, .int t, .int warm] w Q := by
  refine Ct.of (by decide) (Nat.le_of_ble_eq_true rfl) (fun _ => Nat.le_of_ble_eq_true rfl) (fun G hR => ?_)
  have hE := hR.1
  refine zr_aload_n hE eX3_inside_0 rfl ?_
  refine zr_iload_n hE eX3_inside_1 rfl ?_
  refine zr_iload_n hE eX3_inside_2 rfl ?_
  refine zr_iload_n hE eX3_inside_3 rfl ?_
  refine zr_iload hE eX3_inside_4 rfl ?_
  refine zr_callP4 hE eX3_inside_6 lX3_7 hs hq (by decide) (Nat.le_of_ble_eq_true rfl) (c_X0_inside hs hq ?_)
  refine zr_iconst hE eX3_inside_9 (v := 1) (by decide) ?_
  refine zr_isub hE eX3_inside_10 ?_
  refine hR.2.1 _ _ _ _ _ _ eX3_inside_11 rfl rfl ?_
  exact hQ

set_option maxHeartbeats 4000000 in
theorem c_X4_inside {o ci : Nat} {fl : List (Option Nat)} {q : vw_C}{hairs f t warm : Int32} {w : ww} {Q : Option Value → ww → Prop} (hs : zshapes[o]? = some (zob ci fl)) (hq : vwCl[ci]? = some q) (hQ : Q (some (.int (hairs - 2 - warm - 1 - f))) w) : Ct mX4_inside 3 [.ref o, .int hairs, .int f, .int t, .int warm] w Q := by
  refine Ct.of (by decide) (Nat.le_of_ble_eq_true rfl) (fun _ => Nat.le_of_ble_eq_true rfl) (fun G hR => ?_)
  have hE := hR.1
  refine zr_aload_n hE eX4_inside_0 rfl ?_
  refine zr_iload_n hE eX4_inside_1 rfl ?_
  refine zr_iload_n hE eX4_inside_2 rfl ?_
  refine zr_iload_n hE eX4_inside_3 rfl ?_
  refine zr_iload hE eX4_inside_4 rfl ?_
  refine zr_callP4 hE eX4_inside_6 lX4_11 hs hq (by decide) (Nat.le_of_ble_eq_true rfl) (c_X3_inside hs hq ?_)
  refine zr_iload_n hE eX4_inside_9 rfl ?_
  refine zr_isub hE eX4_inside_10 ?_
  refine hR.2.1 _ _ _ _ _ _ eX4_inside_11 rfl rfl ?_
  exact hQ

set_option maxHeartbeats 4000000 in
theorem c_X0_rise {o ci : Nat} {fl : List (Option Nat)} {q : vw_C}{f : Int32} {w : ww} {Q : Option Value → ww → Prop} (hs : zshapes[o]? = some (zob ci fl)) (hq : vwCl[ci]? = some q) (hQ : Q (some (.int (1))) w) : Ct mX0_rise 1 [.ref o, .int f] w Q := by
  refine Ct.of (by decide) (Nat.le_of_ble_eq_true rfl) (fun _ => Nat.le_of_ble_eq_true rfl) (fun G hR => ?_)
  have hE := hR.1
  refine zr_iconst hE eX0_rise_0 (v := 1) (by decide) ?_
  refine hR.2.1 _ _ _ _ _ _ eX0_rise_1 rfl rfl ?_
  exact hQ

set_option maxHeartbeats 4000000 in
theorem c_X6_rise {o ci : Nat} {fl : List (Option Nat)} {q : vw_C}{f : Int32} {w : ww} {Q : Option Value → ww → Prop} (hs : zshapes[o]? = some (zob ci fl)) (hq : vwCl[ci]? = some q) (hQ : Q (some (.int (2))) w) : Ct mX6_rise 2 [.ref o, .int f] w Q := by
  refine Ct.of (by decide) (Nat.le_of_ble_eq_true rfl) (fun _ => Nat.le_of_ble_eq_true rfl) (fun G hR => ?_)
  have hE := hR.1
  refine zr_aload_n hE eX6_rise_0 rfl ?_
  refine zr_iload_n hE eX6_rise_1 rfl ?_
  refine zr_callP1 hE eX6_rise_2 lX6_17 hs hq (by decide) (Nat.le_of_ble_eq_true rfl) (c_X0_rise hs hq ?_)
  refine zr_iconst hE eX6_rise_5 (v := 1) (by decide) ?_
  refine zr_iadd hE eX6_rise_6 ?_
  refine hR.2.1 _ _ _ _ _ _ eX6_rise_7 rfl rfl ?_
  exact zq hQ (by decide)

set_option maxHeartbeats 4000000 in
theorem c_X3_rise {o ci : Nat} {fl : List (Option Nat)} {q : vw_C}{f : Int32} {w : ww} {Q : Option Value → ww → Prop} (hs : zshapes[o]? = some (zob ci fl)) (hq : vwCl[ci]? = some q) (hQ : Q (some (.int (1 + f))) w) : Ct mX3_rise 2 [.ref o, .int f] w Q := by
  refine Ct.of (by decide) (Nat.le_of_ble_eq_true rfl) (fun _ => Nat.le_of_ble_eq_true rfl) (fun G hR => ?_)
  have hE := hR.1
  refine zr_aload_n hE eX3_rise_0 rfl ?_
  refine zr_iload_n hE eX3_rise_1 rfl ?_
  refine zr_callP1 hE eX3_rise_2 lX3_11 hs hq (by decide) (Nat.le_of_ble_eq_true rfl) (c_X0_rise hs hq ?_)
  refine zr_iload_n hE eX3_rise_5 rfl ?_
  refine zr_iadd hE eX3_rise_6 ?_
  refine hR.2.1 _ _ _ _ _ _ eX3_rise_7 rfl rfl ?_
  exact hQ

set_option maxHeartbeats 4000000 in
theorem c_X1_rise {o ci : Nat} {fl : List (Option Nat)} {q : vw_C}{f : Int32} {w : ww} {Q : Option Value → ww → Prop} (hs : zshapes[o]? = some (zob ci fl)) (hq : vwCl[ci]? = some q) (hQ : Q (some (.int (2 + 2 * f))) w) : Ct mX1_rise 3 [.ref o, .int f] w Q := by
  refine Ct.of (by decide) (Nat.le_of_ble_eq_true rfl) (fun _ => Nat.le_of_ble_eq_true rfl) (fun G hR => ?_)
  have hE := hR.1
  refine zr_iconst hE eX1_rise_0 (v := 2) (by decide) ?_
  refine zr_aload_n hE eX1_rise_1 rfl ?_
  refine zr_iload_n hE eX1_rise_2 rfl ?_
  refine zr_callP1 hE eX1_rise_3 lX1_7 hs hq (by decide) (Nat.le_of_ble_eq_true rfl) (c_X3_rise hs hq ?_)
  refine zr_imul hE eX1_rise_6 ?_
  refine hR.2.1 _ _ _ _ _ _ eX1_rise_7 rfl rfl ?_
  exact zq hQ (by rw [Int32.mul_add]; rfl)

set_option maxHeartbeats 4000000 in
theorem c_X2_rise {o ci : Nat} {fl : List (Option Nat)} {q : vw_C}{f : Int32} {w : ww} {Q : Option Value → ww → Prop} (hs : zshapes[o]? = some (zob ci fl)) (hq : vwCl[ci]? = some q) (hQ : Q (some (.int (1))) w) : Ct mX2_rise 3 [.ref o, .int f] w Q := by
  refine Ct.of (by decide) (Nat.le_of_ble_eq_true rfl) (fun _ => Nat.le_of_ble_eq_true rfl) (fun G hR => ?_)
  have hE := hR.1
  refine zr_aload_n hE eX2_rise_0 rfl ?_
  refine zr_iload_n hE eX2_rise_1 rfl ?_
  refine zr_callP1 hE eX2_rise_2 lX2_7 hs hq (by decide) (Nat.le_of_ble_eq_true rfl) (c_X6_rise hs hq ?_)
  refine zr_iconst hE eX2_rise_5 (v := 2) (by decide) ?_
  refine zr_idiv hE eX2_rise_6 (by decide) ?_
  refine hR.2.1 _ _ _ _ _ _ eX2_rise_7 rfl rfl ?_
  exact zq hQ (by decide)

set_option maxHeartbeats 4000000 in
theorem c_X0_cost {o ci : Nat} {fl : List (Option Nat)} {q : vw_C}{f : Int32} {w : ww} {Q : Option Value → ww → Prop} (hs : zshapes[o]? = some (zob ci fl)) (hq : vwCl[ci]? = some q) (hQ : Q (some (.int (4))) w) : Ct mX0_cost 1 [.ref o, .int f] w Q := by
  refine Ct.of (by decide) (Nat.le_of_ble_eq_true rfl) (fun _ => Nat.le_of_ble_eq_true rfl) (fun G hR => ?_)
  have hE := hR.1
  refine zr_iconst hE eX0_cost_0 (v := 4) (by decide) ?_
  refine hR.2.1 _ _ _ _ _ _ eX0_cost_1 rfl rfl ?_
  exact hQ

set_option maxHeartbeats 4000000 in
theorem c_X8_cost {o ci : Nat} {fl : List (Option Nat)} {q : vw_C}{f : Int32} {w : ww} {Q : Option Value → ww → Prop} (hs : zshapes[o]? = some (zob ci fl)) (hq : vwCl[ci]? = some q) (hQ : Q (some (.int (4 + f))) w) : Ct mX8_cost 2 [.ref o, .int f] w Q := by
  refine Ct.of (by decide) (Nat.le_of_ble_eq_true rfl) (fun _ => Nat.le_of_ble_eq_true rfl) (fun G hR => ?_)
  have hE := hR.1
  refine zr_aload_n hE eX8_cost_0 rfl ?_
  refine zr_iload_n hE eX8_cost_1 rfl ?_
  refine zr_callP1 hE eX8_cost_2 lX8_15 hs hq (by decide) (Nat.le_of_ble_eq_true rfl) (c_X0_cost hs hq ?_)
  refine zr_iload_n hE eX8_cost_5 rfl ?_
  refine zr_iadd hE eX8_cost_6 ?_
  refine hR.2.1 _ _ _ _ _ _ eX8_cost_7 rfl rfl ?_
  exact hQ

set_option maxHeartbeats 4000000 in
theorem c_X6_cost {o ci : Nat} {fl : List (Option Nat)} {q : vw_C}{f : Int32} {w : ww} {Q : Option Value → ww → Prop} (hs : zshapes[o]? = some (zob ci fl)) (hq : vwCl[ci]? = some q) (hQ : Q (some (.int (3))) w) : Ct mX6_cost 2 [.ref o, .int f] w Q := by
  refine Ct.of (by decide) (Nat.le_of_ble_eq_true rfl) (fun _ => Nat.le_of_ble_eq_true rfl) (fun G hR => ?_)
  have hE := hR.1
  refine zr_aload_n hE eX6_cost_0 rfl ?_
  refine zr_iload_n hE eX6_cost_1 rfl ?_
  refine zr_callP1 hE eX6_cost_2 lX6_21 hs hq (by decide) (Nat.le_of_ble_eq_true rfl) (c_X0_cost hs hq ?_)
  refine zr_iconst hE eX6_cost_5 (v := 1) (by decide) ?_
  refine zr_isub hE eX6_cost_6 ?_
  refine hR.2.1 _ _ _ _ _ _ eX6_cost_7 rfl rfl ?_
  exact zq hQ (by decide)

set_option maxHeartbeats 4000000 in
theorem c_X3_cost {o ci : Nat} {fl : List (Option Nat)} {q : vw_C}{f : Int32} {w : ww} {Q : Option Value → ww → Prop} (hs : zshapes[o]? = some (zob ci fl)) (hq : vwCl[ci]? = some q) (hQ : Q (some (.int (8))) w) : Ct mX3_cost 2 [.ref o, .int f] w Q := by
  refine Ct.of (by decide) (Nat.le_of_ble_eq_true rfl) (fun _ => Nat.le_of_ble_eq_true rfl) (fun G hR => ?_)
  have hE := hR.1
  refine zr_iconst hE eX3_cost_0 (v := 2) (by decide) ?_
  refine zr_aload_n hE eX3_cost_1 rfl ?_
  refine zr_iload_n hE eX3_cost_2 rfl ?_
  refine zr_callP1 hE eX3_cost_3 lX3_15 hs hq (by decide) (Nat.le_of_ble_eq_true rfl) (c_X0_cost hs hq ?_)
  refine zr_imul hE eX3_cost_6 ?_
  refine hR.2.1 _ _ _ _ _ _ eX3_cost_7 rfl rfl ?_
  exact zq hQ (by decide)

set_option maxHeartbeats 4000000 in
theorem c_X9_cost {o ci : Nat} {fl : List (Option Nat)} {q : vw_C}{f : Int32} {w : ww} {Q : Option Value → ww → Prop} (hs : zshapes[o]? = some (zob ci fl)) (hq : vwCl[ci]? = some q) (hQ : Q (some (.int ((4 + f) / 2))) w) : Ct mX9_cost 3 [.ref o, .int f] w Q := by
  refine Ct.of (by decide) (Nat.le_of_ble_eq_true rfl) (fun _ => Nat.le_of_ble_eq_true rfl) (fun G hR => ?_)
  have hE := hR.1
  refine zr_aload_n hE eX9_cost_0 rfl ?_
  refine zr_iload_n hE eX9_cost_1 rfl ?_
  refine zr_callP1 hE eX9_cost_2 lX9_11 hs hq (by decide) (Nat.le_of_ble_eq_true rfl) (c_X8_cost hs hq ?_)
  refine zr_iconst hE eX9_cost_5 (v := 2) (by decide) ?_
  refine zr_idiv hE eX9_cost_6 (by decide) ?_
  refine hR.2.1 _ _ _ _ _ _ eX9_cost_7 rfl rfl ?_
  exact hQ

set_option maxHeartbeats 4000000 in
theorem c_X4_cost {o ci : Nat} {fl : List (Option Nat)} {q : vw_C}{f : Int32} {w : ww} {Q : Option Value → ww → Prop} (hs : zshapes[o]? = some (zob ci fl)) (hq : vwCl[ci]? = some q) (hQ : Q (some (.int (8 - f))) w) : Ct mX4_cost 3 [.ref o, .int f] w Q := by
  refine Ct.of (by decide) (Nat.le_of_ble_eq_true rfl) (fun _ => Nat.le_of_ble_eq_true rfl) (fun G hR => ?_)
  have hE := hR.1
  refine zr_aload_n hE eX4_cost_0 rfl ?_
  refine zr_iload_n hE eX4_cost_1 rfl ?_
  refine zr_callP1 hE eX4_cost_2 lX4_15 hs hq (by decide) (Nat.le_of_ble_eq_true rfl) (c_X3_cost hs hq ?_)
  refine zr_iload_n hE eX4_cost_5 rfl ?_
  refine zr_isub hE eX4_cost_6 ?_
  refine hR.2.1 _ _ _ _ _ _ eX4_cost_7 rfl rfl ?_
  exact hQ

set_option maxHeartbeats 4000000 in
theorem c_X1_cost {o ci : Nat} {fl : List (Option Nat)} {q : vw_C}{f : Int32} {w : ww} {Q : Option Value → ww → Prop} (hs : zshapes[o]? = some (zob ci fl)) (hq : vwCl[ci]? = some q) (hQ : Q (some (.int (13))) w) : Ct mX1_cost 3 [.ref o, .int f] w Q := by
  refine Ct.of (by decide) (Nat.le_of_ble_eq_true rfl) (fun _ => Nat.le_of_ble_eq_true rfl) (fun G hR => ?_)
  have hE := hR.1
  refine zr_aload_n hE eX1_cost_0 rfl ?_
  refine zr_iload_n hE eX1_cost_1 rfl ?_
  refine zr_callP1 hE eX1_cost_2 lX1_11 hs hq (by decide) (Nat.le_of_ble_eq_true rfl) (c_X3_cost hs hq ?_)
  refine zr_iconst hE eX1_cost_5 (v := 5) (by decide) ?_
  refine zr_iadd hE eX1_cost_6 ?_
  refine hR.2.1 _ _ _ _ _ _ eX1_cost_7 rfl rfl ?_
  exact zq hQ (by decide)

set_option maxHeartbeats 4000000 in
theorem c_X2_cost {o ci : Nat} {fl : List (Option Nat)} {q : vw_C}{f : Int32} {w : ww} {Q : Option Value → ww → Prop} (hs : zshapes[o]? = some (zob ci fl)) (hq : vwCl[ci]? = some q) (hQ : Q (some (.int (3 * (f + 1)))) w) : Ct mX2_cost 3 [.ref o, .int f] w Q := by
  refine Ct.of (by decide) (Nat.le_of_ble_eq_true rfl) (fun _ => Nat.le_of_ble_eq_true rfl) (fun G hR => ?_)
  have hE := hR.1
  refine zr_aload_n hE eX2_cost_0 rfl ?_
  refine zr_iload_n hE eX2_cost_1 rfl ?_
  refine zr_callP1 hE eX2_cost_2 lX2_11 hs hq (by decide) (Nat.le_of_ble_eq_true rfl) (c_X6_cost hs hq ?_)
  refine zr_iload_n hE eX2_cost_5 rfl ?_
  refine zr_iconst hE eX2_cost_6 (v := 1) (by decide) ?_
  refine zr_iadd hE eX2_cost_7 ?_
  refine zr_imul hE eX2_cost_8 ?_
  refine hR.2.1 _ _ _ _ _ _ eX2_cost_9 rfl rfl ?_
  exact hQ

set_option maxHeartbeats 4000000 in
theorem c_X0_minds {o ci : Nat} {fl : List (Option Nat)} {q : vw_C} {w : ww} {Q : Option Value → ww → Prop} (hs : zshapes[o]? = some (zob ci fl)) (hq : vwCl[ci]? = some q) (hQ : Q (some (.int (0))) w) : Ct mX0_minds 1 [.ref o] w Q := by
  refine Ct.of (by decide) (Nat.le_of_ble_eq_true rfl) (fun _ => Nat.le_of_ble_eq_true rfl) (fun G hR => ?_)
  have hE := hR.1
  refine zr_iconst hE eX0_minds_0 (v := 0) (by decide) ?_
  refine hR.2.1 _ _ _ _ _ _ eX0_minds_1 rfl rfl ?_
  exact hQ

set_option maxHeartbeats 4000000 in
theorem c_X8_minds {o ci : Nat} {fl : List (Option Nat)} {q : vw_C} {w : ww} {Q : Option Value → ww → Prop} (hs : zshapes[o]? = some (zob ci fl)) (hq : vwCl[ci]? = some q) (hQ : Q (some (.int (1))) w) : Ct mX8_minds 1 [.ref o] w Q := by
  refine Ct.of (by decide) (Nat.le_of_ble_eq_true rfl) (fun _ => Nat.le_of_ble_eq_true rfl) (fun G hR => ?_)
  have hE := hR.1
  refine zr_iconst hE eX8_minds_0 (v := 1) (by decide) ?_
  refine hR.2.1 _ _ _ _ _ _ eX8_minds_1 rfl rfl ?_
  exact hQ

theorem vp8 {k : Int32} (h : vp_in k 8) : k = 0 ∨ k = 1 ∨ k = 2 ∨ k = 3 ∨ k = 4 ∨ k = 5 ∨ k = 6 ∨ k = 7 := by
  obtain ⟨j, hj, rfl⟩ := vp_in_of h (by decide)
  rcases (show j = 0 ∨ j = 1 ∨ j = 2 ∨ j = 3 ∨ j = 4 ∨ j = 5 ∨ j = 6 ∨ j = 7 by omega) with rfl | rfl | rfl | rfl | rfl | rfl | rfl | rfl <;> decide
theorem zr_vX11_cost {cc : ByteArray} {nL n : Nat} {G : zG} {pc np : Nat} {L : zL} {S : List Value} {w : ww} (h : zE RX11 cc nL n G) {k f : Int32} (hd : zD cc pc (.invokevirtual 288) 3 np) (hk : vp_in k 8) (hn : 4 ≤ n) (hcat : zcat S ≤ 8) (kk : G np L (.int (coK k f) :: S) w) : G pc L (.int f :: .ref (2 + k.toNatClampNeg) :: S) w := by
  rcases vp8 hk with rfl | rfl | rfl | rfl | rfl | rfl | rfl | rfl
  · exact zr_callU1 h (o := 2) hd lX11_288_Bowl rfl rfl (Nat.le_trans (by decide) hn) hcat (c_X0_cost rfl rfl kk)
  · exact zr_callU1 h (o := 3) hd lX11_288_Oval rfl rfl (Nat.le_trans (by decide) hn) hcat (c_X8_cost rfl rfl kk)
  · exact zr_callU1 h (o := 4) hd lX11_288_Lid rfl rfl (Nat.le_trans (by decide) hn) hcat (c_X6_cost rfl rfl kk)
  · exact zr_callU1 h (o := 5) hd lX11_288_Foot rfl rfl (Nat.le_trans (by decide) hn) hcat (c_X3_cost rfl rfl kk)
  · exact zr_callU1 h (o := 6) hd lX11_288_Second rfl rfl (Nat.le_trans (by decide) hn) hcat (c_X9_cost rfl rfl kk)
  · exact zr_callU1 h (o := 7) hd lX11_288_Glued rfl rfl (Nat.le_trans (by decide) hn) hcat (c_X4_cost rfl rfl kk)
  · exact zr_callU1 h (o := 8) hd lX11_288_Deep rfl rfl (Nat.le_trans (by decide) hn) hcat (c_X1_cost rfl rfl kk)
  · exact zr_callU1 h (o := 9) hd lX11_288_Flat rfl rfl (Nat.le_trans (by decide) hn) hcat (c_X2_cost rfl rfl kk)
theorem zr_vX5_outside {cc : ByteArray} {nL n : Nat} {G : zG} {pc np : Nat} {L : zL} {S : List Value} {w : ww} (h : zE RX5 cc nL n G) {k hairs f t : Int32} (hd : zD cc pc (.invokevirtual 82) 3 np) (hk : vp_in k 8) (hn : 4 ≤ n) (hcat : zcat S ≤ 8) (kk : G np L (.int (outK k hairs f t) :: S) w) : G pc L (.int t :: .int f :: .int hairs :: .ref (2 + k.toNatClampNeg) :: S) w := by
  rcases vp8 hk with rfl | rfl | rfl | rfl | rfl | rfl | rfl | rfl
  · exact zr_callU3 h (o := 2) hd lX5_82_Bowl rfl rfl (Nat.le_trans (by decide) hn) hcat (c_X0_outside rfl rfl kk)
  · exact zr_callU3 h (o := 3) hd lX5_82_Oval rfl rfl (Nat.le_trans (by decide) hn) hcat (c_X8_outside rfl rfl kk)
  · exact zr_callU3 h (o := 4) hd lX5_82_Lid rfl rfl (Nat.le_trans (by decide) hn) hcat (c_X6_outside rfl rfl kk)
  · exact zr_callU3 h (o := 5) hd lX5_82_Foot rfl rfl (Nat.le_trans (by decide) hn) hcat (c_X0_outside rfl rfl kk)
  · exact zr_callU3 h (o := 6) hd lX5_82_Second rfl rfl (Nat.le_trans (by decide) hn) hcat (c_X9_outside rfl rfl kk)
  · exact zr_callU3 h (o := 7) hd lX5_82_Glued rfl rfl (Nat.le_trans (by decide) hn) hcat (c_X4_outside rfl rfl kk)
  · exact zr_callU3 h (o := 8) hd lX5_82_Deep rfl rfl (Nat.le_trans (by decide) hn) hcat (c_X0_outside rfl rfl kk)
  · exact zr_callU3 h (o := 9) hd lX5_82_Flat rfl rfl (Nat.le_trans (by decide) hn) hcat (c_X6_outside rfl rfl kk)
theorem zr_vX5_inside {cc : ByteArray} {nL n : Nat} {G : zG} {pc np : Nat} {L : zL} {S : List Value} {w : ww} (h : zE RX5 cc nL n G) {k hairs f t warm : Int32} (hd : zD cc pc (.invokevirtual 88) 3 np) (hk : vp_in k 8) (hn : 4 ≤ n) (hcat : zcat S ≤ 8) (kk : G np L (.int (inK k hairs f t warm) :: S) w) : G pc L (.int warm :: .int t :: .int f :: .int hairs :: .ref (2 + k.toNatClampNeg) :: S) w := by
  rcases vp8 hk with rfl | rfl | rfl | rfl | rfl | rfl | rfl | rfl
  · exact zr_callU4 h (o := 2) hd lX5_88_Bowl rfl rfl (Nat.le_trans (by decide) hn) hcat (c_X0_inside rfl rfl kk)
  · exact zr_callU4 h (o := 3) hd lX5_88_Oval rfl rfl (Nat.le_trans (by decide) hn) hcat (c_X8_inside rfl rfl kk)
  · exact zr_callU4 h (o := 4) hd lX5_88_Lid rfl rfl (Nat.le_trans (by decide) hn) hcat (c_X6_inside rfl rfl kk)
  · exact zr_callU4 h (o := 5) hd lX5_88_Foot rfl rfl (Nat.le_trans (by decide) hn) hcat (c_X3_inside rfl rfl kk)
  · exact zr_callU4 h (o := 6) hd lX5_88_Second rfl rfl (Nat.le_trans (by decide) hn) hcat (c_X8_inside rfl rfl kk)
  · exact zr_callU4 h (o := 7) hd lX5_88_Glued rfl rfl (Nat.le_trans (by decide) hn) hcat (c_X4_inside rfl rfl kk)
  · exact zr_callU4 h (o := 8) hd lX5_88_Deep rfl rfl (Nat.le_trans (by decide) hn) hcat (c_X3_inside rfl rfl kk)
  · exact zr_callU4 h (o := 9) hd lX5_88_Flat rfl rfl (Nat.le_trans (by decide) hn) hcat (c_X6_inside rfl rfl kk)
theorem zr_vX5_rise {cc : ByteArray} {nL n : Nat} {G : zG} {pc np : Nat} {L : zL} {S : List Value} {w : ww} (h : zE RX5 cc nL n G) {k f : Int32} (hd : zD cc pc (.invokevirtual 92) 3 np) (hk : vp_in k 8) (hn : 4 ≤ n) (hcat : zcat S ≤ 8) (kk : G np L (.int (riK k f) :: S) w) : G pc L (.int f :: .ref (2 + k.toNatClampNeg) :: S) w := by
  rcases vp8 hk with rfl | rfl | rfl | rfl | rfl | rfl | rfl | rfl
  · exact zr_callU1 h (o := 2) hd lX5_92_Bowl rfl rfl (Nat.le_trans (by decide) hn) hcat (c_X0_rise rfl rfl kk)
  · exact zr_callU1 h (o := 3) hd lX5_92_Oval rfl rfl (Nat.le_trans (by decide) hn) hcat (c_X0_rise rfl rfl kk)
  · exact zr_callU1 h (o := 4) hd lX5_92_Lid rfl rfl (Nat.le_trans (by decide) hn) hcat (c_X6_rise rfl rfl kk)
  · exact zr_callU1 h (o := 5) hd lX5_92_Foot rfl rfl (Nat.le_trans (by decide) hn) hcat (c_X3_rise rfl rfl kk)
  · exact zr_callU1 h (o := 6) hd lX5_92_Second rfl rfl (Nat.le_trans (by decide) hn) hcat (c_X0_rise rfl rfl kk)
  · exact zr_callU1 h (o := 7) hd lX5_92_Glued rfl rfl (Nat.le_trans (by decide) hn) hcat (c_X3_rise rfl rfl kk)
  · exact zr_callU1 h (o := 8) hd lX5_92_Deep rfl rfl (Nat.le_trans (by decide) hn) hcat (c_X1_rise rfl rfl kk)
  · exact zr_callU1 h (o := 9) hd lX5_92_Flat rfl rfl (Nat.le_trans (by decide) hn) hcat (c_X2_rise rfl rfl kk)
theorem zr_vX5_minds {cc : ByteArray} {nL n : Nat} {G : zG} {pc np : Nat} {L : zL} {S : List Value} {w : ww} (h : zE RX5 cc nL n G) {k : Int32} (hd : zD cc pc (.invokevirtual 106) 3 np) (hk : vp_in k 8) (hn : 4 ≤ n) (hcat : zcat S ≤ 8) (kk : G np L (.int (bi (miK k)) :: S) w) : G pc L (.ref (2 + k.toNatClampNeg) :: S) w := by
  rcases vp8 hk with rfl | rfl | rfl | rfl | rfl | rfl | rfl | rfl
  · exact zr_callU0 h (o := 2) hd lX5_106_Bowl rfl rfl (Nat.le_trans (by decide) hn) hcat (c_X0_minds rfl rfl kk)
  · exact zr_callU0 h (o := 3) hd lX5_106_Oval rfl rfl (Nat.le_trans (by decide) hn) hcat (c_X8_minds rfl rfl kk)
  · exact zr_callU0 h (o := 4) hd lX5_106_Lid rfl rfl (Nat.le_trans (by decide) hn) hcat (c_X0_minds rfl rfl kk)
  · exact zr_callU0 h (o := 5) hd lX5_106_Foot rfl rfl (Nat.le_trans (by decide) hn) hcat (c_X0_minds rfl rfl kk)
  · exact zr_callU0 h (o := 6) hd lX5_106_Second rfl rfl (Nat.le_trans (by decide) hn) hcat (c_X8_minds rfl rfl kk)
  · exact zr_callU0 h (o := 7) hd lX5_106_Glued rfl rfl (Nat.le_trans (by decide) hn) hcat (c_X0_minds rfl rfl kk)
  · exact zr_callU0 h (o := 8) hd lX5_106_Deep rfl rfl (Nat.le_trans (by decide) hn) hcat (c_X0_minds rfl rfl kk)
  · exact zr_callU0 h (o := 9) hd lX5_106_Flat rfl rfl (Nat.le_trans (by decide) hn) hcat (c_X0_minds rfl rfl kk)
