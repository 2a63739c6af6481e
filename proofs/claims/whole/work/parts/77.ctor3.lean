/-! Constructors: what is left of the rows; the contracts of the small ones. -/
section YRows2
variable {own : String} {cc : ByteArray} {nL n mc ms : Nat} {isI : Bool} {G : yG} {pc np : Nat} {L : zL} {S : List Value} {tys : yT} {ws : va_W} {ce sl : Nat}
theorem yr_get (h : yE own cc nL n mc ms isI G) (q0 : Nat) {idx ci k a : Nat} {fs : List Value} {v : Value} (hd : zD cc pc (.getfield idx) 3 np) (hf : zF own idx ci k) (he : ws[q0]? = some (a, .inr (ci, fs))) (hv : fs[k]? = some v) (kk : G np L (v :: S) tys ws ce sl) : G pc L (.ref a :: S) tys ws ce sl := by
  refine h.elim fun p l e R s m args below meth c D A H0 Qm Ts hG hC hB hK0 hA hR hI => ?_
  subst hG
  obtain ⟨hx, hb, hml, hown, hts⟩ := hC
  obtain ⟨hd, rfl⟩ := hd
  intro ls H locs hls hK hP hD hS
  obtain ⟨C, T, N, ty0, hc, hkN, hin, hty, hnm, hl⟩ := hf
  rcases hl with hl | ⟨host, hl⟩
  · exact va_get hx hb hts (fun w hw => hB w (hin w hw)) hown hK hP q0 he hc k hkN (hts _ (hB _ hl)) (fun _ q => q) hv hd (kk ls H locs hls hK hP hD hS)
  · exact va_getN hx hb hts (fun w hw => hB w (hin w hw)) hown hK hP q0 he hc k hkN (va_Nw.use rfl (hK0.2.1 _ hl)) (fun _ q => q) hv hd (kk ls H locs hls hK hP hD hS)
theorem yr_put (h : yE own cc nL n mc ms isI G) (q0 : Nat) {idx ci k a : Nat} {fs : List Value} {ty : FieldType} {v : Int32} (hd : zD cc pc (.putfield idx) 3 np) (hf : zFp own idx ci k ty) (he : ws[q0]? = some (a, .inr (ci, fs))) (hkl : k < fs.length) (hn : narrow ty (.int v) = .int v) (hfit : fits ty (.int v) = true) (kk : G np L S tys (ws.set q0 (a, .inr (ci, fs.set k (.int v)))) ce sl) : G pc L (.int v :: .ref a :: S) tys ws ce sl := by
  refine h.elim fun p l e R s m args below meth c D A H0 Qm Ts hG hC hB hK0 hA hR hI => ?_
  subst hG
  obtain ⟨hx, hb, hml, hown, hts⟩ := hC
  obtain ⟨hd, rfl⟩ := hd
  intro ls H locs hls hK hP hD hS
  obtain ⟨⟨C, T, N, ty0, hc, hkN, hin, hty, hnm, hl⟩, q, hq, hfin, hdesc⟩ := hf
  cases hc.symm.trans hq
  rcases hl with hl | ⟨host, hl⟩
  · exact va_put hx hb hts (fun w hw => hB w (hin w hw)) ty0 hty hnm hown hK hP hD hS q0 he hc k hkN (hts _ (hB _ hl)) (fun _ q => q) hfin hdesc hn hfit hkl hd (fun H1 locs1 hP1 hD1 hS1 => kk ls H1 locs1 hls hK hP1 hD1 hS1)
  · exact va_putN hx hb hts (fun w hw => hB w (hin w hw)) ty0 hty hnm hown hK hP hD hS q0 he hc k hkN (va_Nw.use rfl (hK0.2.1 _ hl)) (fun _ q => q) hfin hdesc hn hfit hkl hd (fun H1 locs1 hP1 hD1 hS1 => kk ls H1 locs1 hls hK hP1 hD1 hS1)
end YRows2
/-- an array of ints, all naught; an object -/
abbrev yi (cA : ClassId) (q n : Nat) : Nat × va_E := (q, .inl (cA, n, .inl (fun _ => 0)))
abbrev yo (q ci : Nat) (fs : List Value) : Nat × va_E := (q, .inr (ci, fs))
set_option maxHeartbeats 1000000 in
theorem i_X0 (a : Nat) : Yc yX0_init cX0_init 1 1 0 0 [] [.ref a] [] Unit (fun _ => []) (fun _ => []) := by
  refine Yc.of (by decide) rfl (Nat.le_of_ble_eq_true rfl) (Nat.le_of_ble_eq_true rfl) (fun G hE hR => ?_)
  refine yr_aload_n hE rfl eX0_init_0 ?_
  refine yr_obj hE eX0_init_1 (big_in (List.mem_of_getElem? (i := 37) (by decide +kernel)) rfl) (big_in (List.mem_of_getElem? (i := 29) (by decide +kernel)) rfl) (big_in (List.mem_of_getElem? (i := 30) (by decide +kernel)) rfl) (by decide) (by decide) ?_
  exact hR _ _ _ _ _ _ _ eX0_init_4 (by decide) (by decide) ⟨(), [], by decide, rfl, rfl⟩
set_option maxHeartbeats 1000000 in
theorem i_X8 (a : Nat) : Yc yX8_init cX8_init 1 2 0 0 [] [.ref a] [] Unit (fun _ => []) (fun _ => []) := by
  refine Yc.of (by decide) rfl (Nat.le_of_ble_eq_true rfl) (Nat.le_of_ble_eq_true rfl) (fun G hE hR => ?_)
  refine yr_aload_n hE rfl eX8_init_0 ?_
  refine yr_call (As := []) (wr := []) hE (fun _ => []) eX8_init_1 (⟨Or.inr ⟨"BowlsWithin", nests_in (List.mem_of_getElem? (i := 44) (by decide +kernel)) rfl⟩, ckX0_init, ikRX0, dkX0_init, by decide⟩) nkX0_init rfl (i_X0 a) rfl [] [] [] rfl rfl rfl (by decide) (by decide) (fun _ _ h => nomatch h) (by decide) (by decide) (by decide) (by decide) (fun _ _ _ h _ => h) (fun _ => ?_)
  exact hR _ _ _ _ _ _ _ eX8_init_4 (by decide) (by decide) ⟨(), [], by decide, rfl, rfl⟩
set_option maxHeartbeats 1000000 in
theorem i_X6 (a : Nat) : Yc yX6_init cX6_init 1 2 0 0 [] [.ref a] [] Unit (fun _ => []) (fun _ => []) := by
  refine Yc.of (by decide) rfl (Nat.le_of_ble_eq_true rfl) (Nat.le_of_ble_eq_true rfl) (fun G hE hR => ?_)
  refine yr_aload_n hE rfl eX6_init_0 ?_
  refine yr_call (As := []) (wr := []) hE (fun _ => []) eX6_init_1 (⟨Or.inr ⟨"BowlsWithin", nests_in (List.mem_of_getElem? (i := 51) (by decide +kernel)) rfl⟩, ckX0_init, ikRX0, dkX0_init, by decide⟩) nkX0_init rfl (i_X0 a) rfl [] [] [] rfl rfl rfl (by decide) (by decide) (fun _ _ h => nomatch h) (by decide) (by decide) (by decide) (by decide) (fun _ _ _ h _ => h) (fun _ => ?_)
  exact hR _ _ _ _ _ _ _ eX6_init_4 (by decide) (by decide) ⟨(), [], by decide, rfl, rfl⟩
set_option maxHeartbeats 1000000 in
theorem i_X3 (a : Nat) : Yc yX3_init cX3_init 1 2 0 0 [] [.ref a] [] Unit (fun _ => []) (fun _ => []) := by
  refine Yc.of (by decide) rfl (Nat.le_of_ble_eq_true rfl) (Nat.le_of_ble_eq_true rfl) (fun G hE hR => ?_)
  refine yr_aload_n hE rfl eX3_init_0 ?_
  refine yr_call (As := []) (wr := []) hE (fun _ => []) eX3_init_1 (⟨Or.inr ⟨"BowlsWithin", nests_in (List.mem_of_getElem? (i := 58) (by decide +kernel)) rfl⟩, ckX0_init, ikRX0, dkX0_init, by decide⟩) nkX0_init rfl (i_X0 a) rfl [] [] [] rfl rfl rfl (by decide) (by decide) (fun _ _ h => nomatch h) (by decide) (by decide) (by decide) (by decide) (fun _ _ _ h _ => h) (fun _ => ?_)
  exact hR _ _ _ _ _ _ _ eX3_init_4 (by decide) (by decide) ⟨(), [], by decide, rfl, rfl⟩
set_option maxHeartbeats 1000000 in
theorem i_X9 (a : Nat) : Yc yX9_init cX9_init 1 3 0 0 [] [.ref a] [] Unit (fun _ => []) (fun _ => []) := by
  refine Yc.of (by decide) rfl (Nat.le_of_ble_eq_true rfl) (Nat.le_of_ble_eq_true rfl) (fun G hE hR => ?_)
  refine yr_aload_n hE rfl eX9_init_0 ?_
  refine yr_call (As := []) (wr := []) hE (fun _ => []) eX9_init_1 (⟨Or.inr ⟨"BowlsWithin", nests_in (List.mem_of_getElem? (i := 65) (by decide +kernel)) rfl⟩, ckX8_init, ikRX8, dkX8_init, by decide⟩) nkX8_init rfl (i_X8 a) rfl [] [] [] rfl rfl rfl (by decide) (by decide) (fun _ _ h => nomatch h) (by decide) (by decide) (by decide) (by decide) (fun _ _ _ h _ => h) (fun _ => ?_)
  exact hR _ _ _ _ _ _ _ eX9_init_4 (by decide) (by decide) ⟨(), [], by decide, rfl, rfl⟩
set_option maxHeartbeats 1000000 in
theorem i_X4 (a : Nat) : Yc yX4_init cX4_init 1 3 0 0 [] [.ref a] [] Unit (fun _ => []) (fun _ => []) := by
  refine Yc.of (by decide) rfl (Nat.le_of_ble_eq_true rfl) (Nat.le_of_ble_eq_true rfl) (fun G hE hR => ?_)
  refine yr_aload_n hE rfl eX4_init_0 ?_
  refine yr_call (As := []) (wr := []) hE (fun _ => []) eX4_init_1 (⟨Or.inr ⟨"BowlsWithin", nests_in (List.mem_of_getElem? (i := 72) (by decide +kernel)) rfl⟩, ckX3_init, ikRX3, dkX3_init, by decide⟩) nkX3_init rfl (i_X3 a) rfl [] [] [] rfl rfl rfl (by decide) (by decide) (fun _ _ h => nomatch h) (by decide) (by decide) (by decide) (by decide) (fun _ _ _ h _ => h) (fun _ => ?_)
  exact hR _ _ _ _ _ _ _ eX4_init_4 (by decide) (by decide) ⟨(), [], by decide, rfl, rfl⟩
set_option maxHeartbeats 1000000 in
theorem i_X1 (a : Nat) : Yc yX1_init cX1_init 1 3 0 0 [] [.ref a] [] Unit (fun _ => []) (fun _ => []) := by
  refine Yc.of (by decide) rfl (Nat.le_of_ble_eq_true rfl) (Nat.le_of_ble_eq_true rfl) (fun G hE hR => ?_)
  refine yr_aload_n hE rfl eX1_init_0 ?_
  refine yr_call (As := []) (wr := []) hE (fun _ => []) eX1_init_1 (⟨Or.inr ⟨"BowlsWithin", nests_in (List.mem_of_getElem? (i := 79) (by decide +kernel)) rfl⟩, ckX3_init, ikRX3, dkX3_init, by decide⟩) nkX3_init rfl (i_X3 a) rfl [] [] [] rfl rfl rfl (by decide) (by decide) (fun _ _ h => nomatch h) (by decide) (by decide) (by decide) (by decide) (fun _ _ _ h _ => h) (fun _ => ?_)
  exact hR _ _ _ _ _ _ _ eX1_init_4 (by decide) (by decide) ⟨(), [], by decide, rfl, rfl⟩
set_option maxHeartbeats 1000000 in
theorem i_X2 (a : Nat) : Yc yX2_init cX2_init 1 3 0 0 [] [.ref a] [] Unit (fun _ => []) (fun _ => []) := by
  refine Yc.of (by decide) rfl (Nat.le_of_ble_eq_true rfl) (Nat.le_of_ble_eq_true rfl) (fun G hE hR => ?_)
  refine yr_aload_n hE rfl eX2_init_0 ?_
  refine yr_call (As := []) (wr := []) hE (fun _ => []) eX2_init_1 (⟨Or.inr ⟨"BowlsWithin", nests_in (List.mem_of_getElem? (i := 86) (by decide +kernel)) rfl⟩, ckX6_init, ikRX6, dkX6_init, by decide⟩) nkX6_init rfl (i_X6 a) rfl [] [] [] rfl rfl rfl (by decide) (by decide) (fun _ _ h => nomatch h) (by decide) (by decide) (by decide) (by decide) (fun _ _ _ h _ => h) (fun _ => ?_)
  exact hR _ _ _ _ _ _ _ eX2_init_4 (by decide) (by decide) ⟨(), [], by decide, rfl, rfl⟩
def ySf (cA : ClassId) (a q1 : Nat) : va_W := [yo a 10 [.ref q1, .int 0, .int 0, .int 0, .int 0, .int 0], yi cA q1 100]
set_option maxHeartbeats 4000000 in
theorem i_X10 (cA : ClassId) (a : Nat) : Yc yX10_init cX10_init 1 1 1 100 [(cA, .int)] [.ref a] [yo a 10 [.null, .int 0, .int 0, .int 0, .int 0, .int 0]] (Nat) (fun _ => [(cA, .int)]) (fun u => ySf cA a u) := by
  refine Yc.of (by decide) rfl (Nat.le_of_ble_eq_true rfl) (Nat.le_of_ble_eq_true rfl) (fun G hE hR => ?_)
  refine yr_aload_n hE rfl eX10_init_0 ?_
  refine yr_obj hE eX10_init_1 (big_in (List.mem_of_getElem? (i := 181) (by decide +kernel)) rfl) (big_in (List.mem_of_getElem? (i := 29) (by decide +kernel)) rfl) (big_in (List.mem_of_getElem? (i := 30) (by decide +kernel)) rfl) (by decide) (by decide) ?_
  refine yr_aload_n hE rfl eX10_init_4 ?_
  refine yr_bipush hE (v := 100) (by decide) eX10_init_5 ?_
  refine yr_newI hE eX10_init_7 (t0 := 0) (N' := 100) (big_in (List.mem_of_getElem? (i := 134) (by decide +kernel)) rfl) rfl (by decide) (by decide) (by decide) (by decide) (by decide) (fun q1 => ?_)
  refine yr_putF hE 0 0 (ty := tyX10 0) tyX10 eX10_init_9 rfl inX10 tyX10_ok nmX10 rfl (by decide) (big_in (List.mem_of_getElem? (i := 182) (by decide +kernel)) rfl) rfl rfl rfl rfl rfl rfl (Nat.le_of_ble_eq_true rfl) ?_
  show G 12 _ [] _ ([yo a 10 [.ref q1, .int 0, .int 0, .int 0, .int 0, .int 0], yi cA q1 100]) 1 100
  exact hR _ _ _ _ _ _ _ eX10_init_12 (by decide) (by decide) ⟨q1, [0, 1], by decide, rfl, rfl⟩
def yHp (cA : ClassId) (a k q1 q2 q3 q4 q5 q6 : Nat) : va_W := [yo a 5 [.ref k, .ref q1, .ref q2, .ref q3, .ref q4, .ref q5, .ref q6, .int 0, .int 0], yi cA q1 10, yi cA q2 10, yi cA q3 10, yi cA q4 10, yi cA q5 10, yi cA q6 10]
set_option maxHeartbeats 4000000 in
theorem i_X5 (cA : ClassId) (a k : Nat) : Yc yX5_init cX5_init 2 1 6 60 [(cA, .int)] [.ref a, .ref k] [yo a 5 [.null, .null, .null, .null, .null, .null, .null, .int 0, .int 0]] (Nat × Nat × Nat × Nat × Nat × Nat) (fun _ => [(cA, .int)]) (fun u => yHp cA a k u.1 u.2.1 u.2.2.1 u.2.2.2.1 u.2.2.2.2.1 u.2.2.2.2.2) := by
  refine Yc.of (by decide) rfl (Nat.le_of_ble_eq_true rfl) (Nat.le_of_ble_eq_true rfl) (fun G hE hR => ?_)
  refine yr_aload_n hE rfl eX5_init_0 ?_
  refine yr_obj hE eX5_init_1 (big_in (List.mem_of_getElem? (i := 93) (by decide +kernel)) rfl) (big_in (List.mem_of_getElem? (i := 29) (by decide +kernel)) rfl) (big_in (List.mem_of_getElem? (i := 30) (by decide +kernel)) rfl) (by decide) (by decide) ?_
  refine yr_aload_n hE rfl eX5_init_4 ?_
  refine yr_bipush hE (v := 10) (by decide) eX5_init_5 ?_
  refine yr_newI hE eX5_init_7 (t0 := 0) (N' := 10) (big_in (List.mem_of_getElem? (i := 134) (by decide +kernel)) rfl) rfl (by decide) (by decide) (by decide) (by decide) (by decide) (fun q1 => ?_)
  refine yr_putF hE 0 1 (ty := tyX5 1) tyX5 eX5_init_9 rfl inX5 tyX5_ok nmX5 rfl (by decide) (big_in (List.mem_of_getElem? (i := 95) (by decide +kernel)) rfl) rfl rfl rfl rfl rfl rfl (Nat.le_of_ble_eq_true rfl) ?_
  show G 12 _ [] _ ([yo a 5 [.null, .ref q1, .null, .null, .null, .null, .null, .int 0, .int 0], yi cA q1 10]) 1 10
  refine yr_aload_n hE rfl eX5_init_12 ?_
  refine yr_bipush hE (v := 10) (by decide) eX5_init_13 ?_
  refine yr_newI hE eX5_init_15 (t0 := 0) (N' := 10) (big_in (List.mem_of_getElem? (i := 134) (by decide +kernel)) rfl) rfl (by decide) (by decide) (by decide) (by decide) (by decide) (fun q2 => ?_)
  refine yr_putF hE 0 2 (ty := tyX5 2) tyX5 eX5_init_17 rfl inX5 tyX5_ok nmX5 rfl (by decide) (big_in (List.mem_of_getElem? (i := 97) (by decide +kernel)) rfl) rfl rfl rfl rfl rfl rfl (Nat.le_of_ble_eq_true rfl) ?_
  show G 20 _ [] _ ([yo a 5 [.null, .ref q1, .ref q2, .null, .null, .null, .null, .int 0, .int 0], yi cA q1 10, yi cA q2 10]) 2 20
  refine yr_aload_n hE rfl eX5_init_20 ?_
  refine yr_bipush hE (v := 10) (by decide) eX5_init_21 ?_
  refine yr_newI hE eX5_init_23 (t0 := 0) (N' := 10) (big_in (List.mem_of_getElem? (i := 134) (by decide +kernel)) rfl) rfl (by decide) (by decide) (by decide) (by decide) (by decide) (fun q3 => ?_)
  refine yr_putF hE 0 3 (ty := tyX5 3) tyX5 eX5_init_25 rfl inX5 tyX5_ok nmX5 rfl (by decide) (big_in (List.mem_of_getElem? (i := 99) (by decide +kernel)) rfl) rfl rfl rfl rfl rfl rfl (Nat.le_of_ble_eq_true rfl) ?_
  show G 28 _ [] _ ([yo a 5 [.null, .ref q1, .ref q2, .ref q3, .null, .null, .null, .int 0, .int 0], yi cA q1 10, yi cA q2 10, yi cA q3 10]) 3 30
  refine yr_aload_n hE rfl eX5_init_28 ?_
  refine yr_bipush hE (v := 10) (by decide) eX5_init_29 ?_
  refine yr_newI hE eX5_init_31 (t0 := 0) (N' := 10) (big_in (List.mem_of_getElem? (i := 134) (by decide +kernel)) rfl) rfl (by decide) (by decide) (by decide) (by decide) (by decide) (fun q4 => ?_)
  refine yr_putF hE 0 4 (ty := tyX5 4) tyX5 eX5_init_33 rfl inX5 tyX5_ok nmX5 rfl (by decide) (big_in (List.mem_of_getElem? (i := 101) (by decide +kernel)) rfl) rfl rfl rfl rfl rfl rfl (Nat.le_of_ble_eq_true rfl) ?_
  show G 36 _ [] _ ([yo a 5 [.null, .ref q1, .ref q2, .ref q3, .ref q4, .null, .null, .int 0, .int 0], yi cA q1 10, yi cA q2 10, yi cA q3 10, yi cA q4 10]) 4 40
  refine yr_aload_n hE rfl eX5_init_36 ?_
  refine yr_bipush hE (v := 10) (by decide) eX5_init_37 ?_
  refine yr_newI hE eX5_init_39 (t0 := 0) (N' := 10) (big_in (List.mem_of_getElem? (i := 134) (by decide +kernel)) rfl) rfl (by decide) (by decide) (by decide) (by decide) (by decide) (fun q5 => ?_)
  refine yr_putF hE 0 5 (ty := tyX5 5) tyX5 eX5_init_41 rfl inX5 tyX5_ok nmX5 rfl (by decide) (big_in (List.mem_of_getElem? (i := 103) (by decide +kernel)) rfl) rfl rfl rfl rfl rfl rfl (Nat.le_of_ble_eq_true rfl) ?_
  show G 44 _ [] _ ([yo a 5 [.null, .ref q1, .ref q2, .ref q3, .ref q4, .ref q5, .null, .int 0, .int 0], yi cA q1 10, yi cA q2 10, yi cA q3 10, yi cA q4 10, yi cA q5 10]) 5 50
  refine yr_aload_n hE rfl eX5_init_44 ?_
  refine yr_bipush hE (v := 10) (by decide) eX5_init_45 ?_
  refine yr_newI hE eX5_init_47 (t0 := 0) (N' := 10) (big_in (List.mem_of_getElem? (i := 134) (by decide +kernel)) rfl) rfl (by decide) (by decide) (by decide) (by decide) (by decide) (fun q6 => ?_)
  refine yr_putF hE 0 6 (ty := tyX5 6) tyX5 eX5_init_49 rfl inX5 tyX5_ok nmX5 rfl (by decide) (big_in (List.mem_of_getElem? (i := 106) (by decide +kernel)) rfl) rfl rfl rfl rfl rfl rfl (Nat.le_of_ble_eq_true rfl) ?_
  show G 52 _ [] _ ([yo a 5 [.null, .ref q1, .ref q2, .ref q3, .ref q4, .ref q5, .ref q6, .int 0, .int 0], yi cA q1 10, yi cA q2 10, yi cA q3 10, yi cA q4 10, yi cA q5 10, yi cA q6 10]) 6 60
  refine yr_aload_n hE rfl eX5_init_52 ?_
  refine yr_aload_n hE rfl eX5_init_53 ?_
  refine yr_putF hE 0 0 (ty := tyX5 0) tyX5 eX5_init_54 rfl inX5 tyX5_ok nmX5 rfl (by decide) (big_in (List.mem_of_getElem? (i := 94) (by decide +kernel)) rfl) rfl rfl rfl rfl rfl rfl (Nat.le_of_ble_eq_true rfl) ?_
  show G 57 _ [] _ ([yo a 5 [.ref k, .ref q1, .ref q2, .ref q3, .ref q4, .ref q5, .ref q6, .int 0, .int 0], yi cA q1 10, yi cA q2 10, yi cA q3 10, yi cA q4 10, yi cA q5 10, yi cA q6 10]) 6 60
  exact hR _ _ _ _ _ _ _ eX5_init_57 (by decide) (by decide) ⟨⟨q1, q2, q3, q4, q5, q6⟩, [0, 1, 2, 3, 4, 5, 6], by decide, rfl, rfl⟩
def yNs (cA : ClassId) (a q1 q2 q3 q4 q5 q6 q7 q8 : Nat) : va_W := [yo a 7 [.ref q1, .ref q2, .ref q3, .ref q4, .ref q5, .ref q6, .ref q7, .ref q8, .int 0, .int 0, .int 0], yi cA q1 512, yi cA q2 512, yi cA q3 512, yi cA q4 512, yi cA q5 512, yi cA q6 9, yi cA q7 9, yi cA q8 9]
set_option maxHeartbeats 4000000 in
theorem i_X7 (cA : ClassId) (a : Nat) : Yc yX7_init cX7_init 1 1 8 2587 [(cA, .int)] [.ref a] [yo a 7 [.null, .null, .null, .null, .null, .null, .null, .null, .int 0, .int 0, .int 0]] (Nat × Nat × Nat × Nat × Nat × Nat × Nat × Nat) (fun _ => [(cA, .int)]) (fun u => yNs cA a u.1 u.2.1 u.2.2.1 u.2.2.2.1 u.2.2.2.2.1 u.2.2.2.2.2.1 u.2.2.2.2.2.2.1 u.2.2.2.2.2.2.2) := by
  refine Yc.of (by decide) rfl (Nat.le_of_ble_eq_true rfl) (Nat.le_of_ble_eq_true rfl) (fun G hE hR => ?_)
  refine yr_aload_n hE rfl eX7_init_0 ?_
  refine yr_obj hE eX7_init_1 (big_in (List.mem_of_getElem? (i := 140) (by decide +kernel)) rfl) (big_in (List.mem_of_getElem? (i := 29) (by decide +kernel)) rfl) (big_in (List.mem_of_getElem? (i := 30) (by decide +kernel)) rfl) (by decide) (by decide) ?_
  refine yr_aload_n hE rfl eX7_init_4 ?_
  refine yr_sipush hE (v := 512) (by decide) eX7_init_5 ?_
  refine yr_newI hE eX7_init_8 (t0 := 0) (N' := 512) (big_in (List.mem_of_getElem? (i := 134) (by decide +kernel)) rfl) rfl (by decide) (by decide) (by decide) (by decide) (by decide) (fun q1 => ?_)
  refine yr_putF hE 0 0 (ty := tyX7 0) tyX7 eX7_init_10 rfl inX7 tyX7_ok nmX7 rfl (by decide) (big_in (List.mem_of_getElem? (i := 141) (by decide +kernel)) rfl) rfl rfl rfl rfl rfl rfl (Nat.le_of_ble_eq_true rfl) ?_
  show G 13 _ [] _ ([yo a 7 [.ref q1, .null, .null, .null, .null, .null, .null, .null, .int 0, .int 0, .int 0], yi cA q1 512]) 1 512
  refine yr_aload_n hE rfl eX7_init_13 ?_
  refine yr_sipush hE (v := 512) (by decide) eX7_init_14 ?_
  refine yr_newI hE eX7_init_17 (t0 := 0) (N' := 512) (big_in (List.mem_of_getElem? (i := 134) (by decide +kernel)) rfl) rfl (by decide) (by decide) (by decide) (by decide) (by decide) (fun q2 => ?_)
  refine yr_putF hE 0 1 (ty := tyX7 1) tyX7 eX7_init_19 rfl inX7 tyX7_ok nmX7 rfl (by decide) (big_in (List.mem_of_getElem? (i := 142) (by decide +kernel)) rfl) rfl rfl rfl rfl rfl rfl (Nat.le_of_ble_eq_true rfl) ?_
  show G 22 _ [] _ ([yo a 7 [.ref q1, .ref q2, .null, .null, .null, .null, .null, .null, .int 0, .int 0, .int 0], yi cA q1 512, yi cA q2 512]) 2 1024
  refine yr_aload_n hE rfl eX7_init_22 ?_
  refine yr_sipush hE (v := 512) (by decide) eX7_init_23 ?_
  refine yr_newI hE eX7_init_26 (t0 := 0) (N' := 512) (big_in (List.mem_of_getElem? (i := 134) (by decide +kernel)) rfl) rfl (by decide) (by decide) (by decide) (by decide) (by decide) (fun q3 => ?_)
  refine yr_putF hE 0 2 (ty := tyX7 2) tyX7 eX7_init_28 rfl inX7 tyX7_ok nmX7 rfl (by decide) (big_in (List.mem_of_getElem? (i := 143) (by decide +kernel)) rfl) rfl rfl rfl rfl rfl rfl (Nat.le_of_ble_eq_true rfl) ?_
  show G 31 _ [] _ ([yo a 7 [.ref q1, .ref q2, .ref q3, .null, .null, .null, .null, .null, .int 0, .int 0, .int 0], yi cA q1 512, yi cA q2 512, yi cA q3 512]) 3 1536
  refine yr_aload_n hE rfl eX7_init_31 ?_
  refine yr_sipush hE (v := 512) (by decide) eX7_init_32 ?_
  refine yr_newI hE eX7_init_35 (t0 := 0) (N' := 512) (big_in (List.mem_of_getElem? (i := 134) (by decide +kernel)) rfl) rfl (by decide) (by decide) (by decide) (by decide) (by decide) (fun q4 => ?_)
  refine yr_putF hE 0 3 (ty := tyX7 3) tyX7 eX7_init_37 rfl inX7 tyX7_ok nmX7 rfl (by decide) (big_in (List.mem_of_getElem? (i := 144) (by decide +kernel)) rfl) rfl rfl rfl rfl rfl rfl (Nat.le_of_ble_eq_true rfl) ?_
  show G 40 _ [] _ ([yo a 7 [.ref q1, .ref q2, .ref q3, .ref q4, .null, .null, .null, .null, .int 0, .int 0, .int 0], yi cA q1 512, yi cA q2 512, yi cA q3 512, yi cA q4 512]) 4 2048
  refine yr_aload_n hE rfl eX7_init_40 ?_
  refine yr_sipush hE (v := 512) (by decide) eX7_init_41 ?_
  refine yr_newI hE eX7_init_44 (t0 := 0) (N' := 512) (big_in (List.mem_of_getElem? (i := 134) (by decide +kernel)) rfl) rfl (by decide) (by decide) (by decide) (by decide) (by decide) (fun q5 => ?_)
  refine yr_putF hE 0 4 (ty := tyX7 4) tyX7 eX7_init_46 rfl inX7 tyX7_ok nmX7 rfl (by decide) (big_in (List.mem_of_getElem? (i := 145) (by decide +kernel)) rfl) rfl rfl rfl rfl rfl rfl (Nat.le_of_ble_eq_true rfl) ?_
  show G 49 _ [] _ ([yo a 7 [.ref q1, .ref q2, .ref q3, .ref q4, .ref q5, .null, .null, .null, .int 0, .int 0, .int 0], yi cA q1 512, yi cA q2 512, yi cA q3 512, yi cA q4 512, yi cA q5 512]) 5 2560
  refine yr_aload_n hE rfl eX7_init_49 ?_
  refine yr_bipush hE (v := 9) (by decide) eX7_init_50 ?_
  refine yr_newI hE eX7_init_52 (t0 := 0) (N' := 9) (big_in (List.mem_of_getElem? (i := 134) (by decide +kernel)) rfl) rfl (by decide) (by decide) (by decide) (by decide) (by decide) (fun q6 => ?_)
  refine yr_putF hE 0 5 (ty := tyX7 5) tyX7 eX7_init_54 rfl inX7 tyX7_ok nmX7 rfl (by decide) (big_in (List.mem_of_getElem? (i := 146) (by decide +kernel)) rfl) rfl rfl rfl rfl rfl rfl (Nat.le_of_ble_eq_true rfl) ?_
  show G 57 _ [] _ ([yo a 7 [.ref q1, .ref q2, .ref q3, .ref q4, .ref q5, .ref q6, .null, .null, .int 0, .int 0, .int 0], yi cA q1 512, yi cA q2 512, yi cA q3 512, yi cA q4 512, yi cA q5 512, yi cA q6 9]) 6 2569
  refine yr_aload_n hE rfl eX7_init_57 ?_
  refine yr_bipush hE (v := 9) (by decide) eX7_init_58 ?_
  refine yr_newI hE eX7_init_60 (t0 := 0) (N' := 9) (big_in (List.mem_of_getElem? (i := 134) (by decide +kernel)) rfl) rfl (by decide) (by decide) (by decide) (by decide) (by decide) (fun q7 => ?_)
  refine yr_putF hE 0 6 (ty := tyX7 6) tyX7 eX7_init_62 rfl inX7 tyX7_ok nmX7 rfl (by decide) (big_in (List.mem_of_getElem? (i := 147) (by decide +kernel)) rfl) rfl rfl rfl rfl rfl rfl (Nat.le_of_ble_eq_true rfl) ?_
  show G 65 _ [] _ ([yo a 7 [.ref q1, .ref q2, .ref q3, .ref q4, .ref q5, .ref q6, .ref q7, .null, .int 0, .int 0, .int 0], yi cA q1 512, yi cA q2 512, yi cA q3 512, yi cA q4 512, yi cA q5 512, yi cA q6 9, yi cA q7 9]) 7 2578
  refine yr_aload_n hE rfl eX7_init_65 ?_
  refine yr_bipush hE (v := 9) (by decide) eX7_init_66 ?_
  refine yr_newI hE eX7_init_68 (t0 := 0) (N' := 9) (big_in (List.mem_of_getElem? (i := 134) (by decide +kernel)) rfl) rfl (by decide) (by decide) (by decide) (by decide) (by decide) (fun q8 => ?_)
  refine yr_putF hE 0 7 (ty := tyX7 7) tyX7 eX7_init_70 rfl inX7 tyX7_ok nmX7 rfl (by decide) (big_in (List.mem_of_getElem? (i := 148) (by decide +kernel)) rfl) rfl rfl rfl rfl rfl rfl (Nat.le_of_ble_eq_true rfl) ?_
  show G 73 _ [] _ ([yo a 7 [.ref q1, .ref q2, .ref q3, .ref q4, .ref q5, .ref q6, .ref q7, .ref q8, .int 0, .int 0, .int 0], yi cA q1 512, yi cA q2 512, yi cA q3 512, yi cA q4 512, yi cA q5 512, yi cA q6 9, yi cA q7 9, yi cA q8 9]) 8 2587
  exact hR _ _ _ _ _ _ _ eX7_init_73 (by decide) (by decide) ⟨⟨q1, q2, q3, q4, q5, q6, q7, q8⟩, [0, 1, 2, 3, 4, 5, 6, 7, 8], by decide, rfl, rfl⟩
def yMd (cA : ClassId) (a q1 q2 q3 q4 q5 q6 q7 q8 q9 q10 q11 q12 q13 : Nat) : va_W := [yo a 12 [.ref q1, .ref q2, .ref q3, .ref q4, .ref q5, .ref q6, .ref q7, .ref q8, .ref q9, .int 0, .int 0, .int 0, .int 0, .int 0, .int 0, .ref q10, .ref q11, .ref q12, .ref q13, .int 0], yi cA q1 52, yi cA q2 52, yi cA q3 52, yi cA q4 8, yi cA q5 8, yi cA q6 8, yi cA q7 800, yi cA q8 8, yi cA q9 8, yi cA q10 5, yi cA q11 512, yi cA q12 512, yi cA q13 10]
set_option maxHeartbeats 4000000 in
theorem i_X12 (cA : ClassId) (a : Nat) : Yc yX12_init cX12_init 1 1 13 2035 [(cA, .int)] [.ref a] [yo a 12 [.null, .null, .null, .null, .null, .null, .null, .null, .null, .int 0, .int 0, .int 0, .int 0, .int 0, .int 0, .null, .null, .null, .null, .int 0]] (Nat × Nat × Nat × Nat × Nat × Nat × Nat × Nat × Nat × Nat × Nat × Nat × Nat) (fun _ => [(cA, .int)]) (fun u => yMd cA a u.1 u.2.1 u.2.2.1 u.2.2.2.1 u.2.2.2.2.1 u.2.2.2.2.2.1 u.2.2.2.2.2.2.1 u.2.2.2.2.2.2.2.1 u.2.2.2.2.2.2.2.2.1 u.2.2.2.2.2.2.2.2.2.1 u.2.2.2.2.2.2.2.2.2.2.1 u.2.2.2.2.2.2.2.2.2.2.2.1 u.2.2.2.2.2.2.2.2.2.2.2.2) := by
  refine Yc.of (by decide) rfl (Nat.le_of_ble_eq_true rfl) (Nat.le_of_ble_eq_true rfl) (fun G hE hR => ?_)
  refine yr_aload_n hE rfl eX12_init_0 ?_
  refine yr_obj hE eX12_init_1 (big_in (List.mem_of_getElem? (i := 907) (by decide +kernel)) rfl) (big_in (List.mem_of_getElem? (i := 29) (by decide +kernel)) rfl) (big_in (List.mem_of_getElem? (i := 30) (by decide +kernel)) rfl) (by decide) (by decide) ?_
  refine yr_aload_n hE rfl eX12_init_4 ?_
  refine yr_bipush hE (v := 52) (by decide) eX12_init_5 ?_
  refine yr_newI hE eX12_init_7 (t0 := 0) (N' := 52) (big_in (List.mem_of_getElem? (i := 134) (by decide +kernel)) rfl) rfl (by decide) (by decide) (by decide) (by decide) (by decide) (fun q1 => ?_)
  refine yr_putF hE 0 0 (ty := tyX12 0) tyX12 eX12_init_9 rfl inX12 tyX12_ok nmX12 rfl (by decide) (big_in (List.mem_of_getElem? (i := 908) (by decide +kernel)) rfl) rfl rfl rfl rfl rfl rfl (Nat.le_of_ble_eq_true rfl) ?_
  show G 12 _ [] _ ([yo a 12 [.ref q1, .null, .null, .null, .null, .null, .null, .null, .null, .int 0, .int 0, .int 0, .int 0, .int 0, .int 0, .null, .null, .null, .null, .int 0], yi cA q1 52]) 1 52
  refine yr_aload_n hE rfl eX12_init_12 ?_
  refine yr_bipush hE (v := 52) (by decide) eX12_init_13 ?_
  refine yr_newI hE eX12_init_15 (t0 := 0) (N' := 52) (big_in (List.mem_of_getElem? (i := 134) (by decide +kernel)) rfl) rfl (by decide) (by decide) (by decide) (by decide) (by decide) (fun q2 => ?_)
  refine yr_putF hE 0 1 (ty := tyX12 1) tyX12 eX12_init_17 rfl inX12 tyX12_ok nmX12 rfl (by decide) (big_in (List.mem_of_getElem? (i := 909) (by decide +kernel)) rfl) rfl rfl rfl rfl rfl rfl (Nat.le_of_ble_eq_true rfl) ?_
  show G 20 _ [] _ ([yo a 12 [.ref q1, .ref q2, .null, .null, .null, .null, .null, .null, .null, .int 0, .int 0, .int 0, .int 0, .int 0, .int 0, .null, .null, .null, .null, .int 0], yi cA q1 52, yi cA q2 52]) 2 104
  refine yr_aload_n hE rfl eX12_init_20 ?_
  refine yr_bipush hE (v := 52) (by decide) eX12_init_21 ?_
  refine yr_newI hE eX12_init_23 (t0 := 0) (N' := 52) (big_in (List.mem_of_getElem? (i := 134) (by decide +kernel)) rfl) rfl (by decide) (by decide) (by decide) (by decide) (by decide) (fun q3 => ?_)
  refine yr_putF hE 0 2 (ty := tyX12 2) tyX12 eX12_init_25 rfl inX12 tyX12_ok nmX12 rfl (by decide) (big_in (List.mem_of_getElem? (i := 910) (by decide +kernel)) rfl) rfl rfl rfl rfl rfl rfl (Nat.le_of_ble_eq_true rfl) ?_
  show G 28 _ [] _ ([yo a 12 [.ref q1, .ref q2, .ref q3, .null, .null, .null, .null, .null, .null, .int 0, .int 0, .int 0, .int 0, .int 0, .int 0, .null, .null, .null, .null, .int 0], yi cA q1 52, yi cA q2 52, yi cA q3 52]) 3 156
  refine yr_aload_n hE rfl eX12_init_28 ?_
  refine yr_bipush hE (v := 8) (by decide) eX12_init_29 ?_
  refine yr_newI hE eX12_init_31 (t0 := 0) (N' := 8) (big_in (List.mem_of_getElem? (i := 134) (by decide +kernel)) rfl) rfl (by decide) (by decide) (by decide) (by decide) (by decide) (fun q4 => ?_)
  refine yr_putF hE 0 3 (ty := tyX12 3) tyX12 eX12_init_33 rfl inX12 tyX12_ok nmX12 rfl (by decide) (big_in (List.mem_of_getElem? (i := 911) (by decide +kernel)) rfl) rfl rfl rfl rfl rfl rfl (Nat.le_of_ble_eq_true rfl) ?_
  show G 36 _ [] _ ([yo a 12 [.ref q1, .ref q2, .ref q3, .ref q4, .null, .null, .null, .null, .null, .int 0, .int 0, .int 0, .int 0, .int 0, .int 0, .null, .null, .null, .null, .int 0], yi cA q1 52, yi cA q2 52, yi cA q3 52, yi cA q4 8]) 4 164
  refine yr_aload_n hE rfl eX12_init_36 ?_
  refine yr_bipush hE (v := 8) (by decide) eX12_init_37 ?_
  refine yr_newI hE eX12_init_39 (t0 := 0) (N' := 8) (big_in (List.mem_of_getElem? (i := 134) (by decide +kernel)) rfl) rfl (by decide) (by decide) (by decide) (by decide) (by decide) (fun q5 => ?_)
  refine yr_putF hE 0 4 (ty := tyX12 4) tyX12 eX12_init_41 rfl inX12 tyX12_ok nmX12 rfl (by decide) (big_in (List.mem_of_getElem? (i := 912) (by decide +kernel)) rfl) rfl rfl rfl rfl rfl rfl (Nat.le_of_ble_eq_true rfl) ?_
  show G 44 _ [] _ ([yo a 12 [.ref q1, .ref q2, .ref q3, .ref q4, .ref q5, .null, .null, .null, .null, .int 0, .int 0, .int 0, .int 0, .int 0, .int 0, .null, .null, .null, .null, .int 0], yi cA q1 52, yi cA q2 52, yi cA q3 52, yi cA q4 8, yi cA q5 8]) 5 172
  refine yr_aload_n hE rfl eX12_init_44 ?_
  refine yr_bipush hE (v := 8) (by decide) eX12_init_45 ?_
  refine yr_newI hE eX12_init_47 (t0 := 0) (N' := 8) (big_in (List.mem_of_getElem? (i := 134) (by decide +kernel)) rfl) rfl (by decide) (by decide) (by decide) (by decide) (by decide) (fun q6 => ?_)
  refine yr_putF hE 0 5 (ty := tyX12 5) tyX12 eX12_init_49 rfl inX12 tyX12_ok nmX12 rfl (by decide) (big_in (List.mem_of_getElem? (i := 913) (by decide +kernel)) rfl) rfl rfl rfl rfl rfl rfl (Nat.le_of_ble_eq_true rfl) ?_
  show G 52 _ [] _ ([yo a 12 [.ref q1, .ref q2, .ref q3, .ref q4, .ref q5, .ref q6, .null, .null, .null, .int 0, .int 0, .int 0, .int 0, .int 0, .int 0, .null, .null, .null, .null, .int 0], yi cA q1 52, yi cA q2 52, yi cA q3 52, yi cA q4 8, yi cA q5 8, yi cA q6 8]) 6 180
  refine yr_aload_n hE rfl eX12_init_52 ?_
  refine yr_sipush hE (v := 800) (by decide) eX12_init_53 ?_
  refine yr_newI hE eX12_init_56 (t0 := 0) (N' := 800) (big_in (List.mem_of_getElem? (i := 134) (by decide +kernel)) rfl) rfl (by decide) (by decide) (by decide) (by decide) (by decide) (fun q7 => ?_)
  refine yr_putF hE 0 6 (ty := tyX12 6) tyX12 eX12_init_58 rfl inX12 tyX12_ok nmX12 rfl (by decide) (big_in (List.mem_of_getElem? (i := 914) (by decide +kernel)) rfl) rfl rfl rfl rfl rfl rfl (Nat.le_of_ble_eq_true rfl) ?_
  show G 61 _ [] _ ([yo a 12 [.ref q1, .ref q2, .ref q3, .ref q4, .ref q5, .ref q6, .ref q7, .null, .null, .int 0, .int 0, .int 0, .int 0, .int 0, .int 0, .null, .null, .null, .null, .int 0], yi cA q1 52, yi cA q2 52, yi cA q3 52, yi cA q4 8, yi cA q5 8, yi cA q6 8, yi cA q7 800]) 7 980
  refine yr_aload_n hE rfl eX12_init_61 ?_
  refine yr_bipush hE (v := 8) (by decide) eX12_init_62 ?_
  refine yr_newI hE eX12_init_64 (t0 := 0) (N' := 8) (big_in (List.mem_of_getElem? (i := 134) (by decide +kernel)) rfl) rfl (by decide) (by decide) (by decide) (by decide) (by decide) (fun q8 => ?_)
  refine yr_putF hE 0 7 (ty := tyX12 7) tyX12 eX12_init_66 rfl inX12 tyX12_ok nmX12 rfl (by decide) (big_in (List.mem_of_getElem? (i := 915) (by decide +kernel)) rfl) rfl rfl rfl rfl rfl rfl (Nat.le_of_ble_eq_true rfl) ?_
  show G 69 _ [] _ ([yo a 12 [.ref q1, .ref q2, .ref q3, .ref q4, .ref q5, .ref q6, .ref q7, .ref q8, .null, .int 0, .int 0, .int 0, .int 0, .int 0, .int 0, .null, .null, .null, .null, .int 0], yi cA q1 52, yi cA q2 52, yi cA q3 52, yi cA q4 8, yi cA q5 8, yi cA q6 8, yi cA q7 800, yi cA q8 8]) 8 988
  refine yr_aload_n hE rfl eX12_init_69 ?_
  refine yr_bipush hE (v := 8) (by decide) eX12_init_70 ?_
  refine yr_newI hE eX12_init_72 (t0 := 0) (N' := 8) (big_in (List.mem_of_getElem? (i := 134) (by decide +kernel)) rfl) rfl (by decide) (by decide) (by decide) (by decide) (by decide) (fun q9 => ?_)
  refine yr_putF hE 0 8 (ty := tyX12 8) tyX12 eX12_init_74 rfl inX12 tyX12_ok nmX12 rfl (by decide) (big_in (List.mem_of_getElem? (i := 916) (by decide +kernel)) rfl) rfl rfl rfl rfl rfl rfl (Nat.le_of_ble_eq_true rfl) ?_
  show G 77 _ [] _ ([yo a 12 [.ref q1, .ref q2, .ref q3, .ref q4, .ref q5, .ref q6, .ref q7, .ref q8, .ref q9, .int 0, .int 0, .int 0, .int 0, .int 0, .int 0, .null, .null, .null, .null, .int 0], yi cA q1 52, yi cA q2 52, yi cA q3 52, yi cA q4 8, yi cA q5 8, yi cA q6 8, yi cA q7 800, yi cA q8 8, yi cA q9 8]) 9 996
  refine yr_aload_n hE rfl eX12_init_77 ?_
  refine yr_iconst hE (v := 5) (by decide) eX12_init_78 ?_
  refine yr_newI hE eX12_init_79 (t0 := 0) (N' := 5) (big_in (List.mem_of_getElem? (i := 134) (by decide +kernel)) rfl) rfl (by decide) (by decide) (by decide) (by decide) (by decide) (fun q10 => ?_)
  refine yr_putF hE 0 15 (ty := tyX12 15) tyX12 eX12_init_81 rfl inX12 tyX12_ok nmX12 rfl (by decide) (big_in (List.mem_of_getElem? (i := 923) (by decide +kernel)) rfl) rfl rfl rfl rfl rfl rfl (Nat.le_of_ble_eq_true rfl) ?_
  show G 84 _ [] _ ([yo a 12 [.ref q1, .ref q2, .ref q3, .ref q4, .ref q5, .ref q6, .ref q7, .ref q8, .ref q9, .int 0, .int 0, .int 0, .int 0, .int 0, .int 0, .ref q10, .null, .null, .null, .int 0], yi cA q1 52, yi cA q2 52, yi cA q3 52, yi cA q4 8, yi cA q5 8, yi cA q6 8, yi cA q7 800, yi cA q8 8, yi cA q9 8, yi cA q10 5]) 10 1001
  refine yr_aload_n hE rfl eX12_init_84 ?_
  refine yr_sipush hE (v := 512) (by decide) eX12_init_85 ?_
  refine yr_newI hE eX12_init_88 (t0 := 0) (N' := 512) (big_in (List.mem_of_getElem? (i := 134) (by decide +kernel)) rfl) rfl (by decide) (by decide) (by decide) (by decide) (by decide) (fun q11 => ?_)
  refine yr_putF hE 0 16 (ty := tyX12 16) tyX12 eX12_init_90 rfl inX12 tyX12_ok nmX12 rfl (by decide) (big_in (List.mem_of_getElem? (i := 924) (by decide +kernel)) rfl) rfl rfl rfl rfl rfl rfl (Nat.le_of_ble_eq_true rfl) ?_
  show G 93 _ [] _ ([yo a 12 [.ref q1, .ref q2, .ref q3, .ref q4, .ref q5, .ref q6, .ref q7, .ref q8, .ref q9, .int 0, .int 0, .int 0, .int 0, .int 0, .int 0, .ref q10, .ref q11, .null, .null, .int 0], yi cA q1 52, yi cA q2 52, yi cA q3 52, yi cA q4 8, yi cA q5 8, yi cA q6 8, yi cA q7 800, yi cA q8 8, yi cA q9 8, yi cA q10 5, yi cA q11 512]) 11 1513
  refine yr_aload_n hE rfl eX12_init_93 ?_
  refine yr_sipush hE (v := 512) (by decide) eX12_init_94 ?_
  refine yr_newI hE eX12_init_97 (t0 := 0) (N' := 512) (big_in (List.mem_of_getElem? (i := 134) (by decide +kernel)) rfl) rfl (by decide) (by decide) (by decide) (by decide) (by decide) (fun q12 => ?_)
  refine yr_putF hE 0 17 (ty := tyX12 17) tyX12 eX12_init_99 rfl inX12 tyX12_ok nmX12 rfl (by decide) (big_in (List.mem_of_getElem? (i := 925) (by decide +kernel)) rfl) rfl rfl rfl rfl rfl rfl (Nat.le_of_ble_eq_true rfl) ?_
  show G 102 _ [] _ ([yo a 12 [.ref q1, .ref q2, .ref q3, .ref q4, .ref q5, .ref q6, .ref q7, .ref q8, .ref q9, .int 0, .int 0, .int 0, .int 0, .int 0, .int 0, .ref q10, .ref q11, .ref q12, .null, .int 0], yi cA q1 52, yi cA q2 52, yi cA q3 52, yi cA q4 8, yi cA q5 8, yi cA q6 8, yi cA q7 800, yi cA q8 8, yi cA q9 8, yi cA q10 5, yi cA q11 512, yi cA q12 512]) 12 2025
  refine yr_aload_n hE rfl eX12_init_102 ?_
  refine yr_bipush hE (v := 10) (by decide) eX12_init_103 ?_
  refine yr_newI hE eX12_init_105 (t0 := 0) (N' := 10) (big_in (List.mem_of_getElem? (i := 134) (by decide +kernel)) rfl) rfl (by decide) (by decide) (by decide) (by decide) (by decide) (fun q13 => ?_)
  refine yr_putF hE 0 18 (ty := tyX12 18) tyX12 eX12_init_107 rfl inX12 tyX12_ok nmX12 rfl (by decide) (big_in (List.mem_of_getElem? (i := 926) (by decide +kernel)) rfl) rfl rfl rfl rfl rfl rfl (Nat.le_of_ble_eq_true rfl) ?_
  show G 110 _ [] _ ([yo a 12 [.ref q1, .ref q2, .ref q3, .ref q4, .ref q5, .ref q6, .ref q7, .ref q8, .ref q9, .int 0, .int 0, .int 0, .int 0, .int 0, .int 0, .ref q10, .ref q11, .ref q12, .ref q13, .int 0], yi cA q1 52, yi cA q2 52, yi cA q3 52, yi cA q4 8, yi cA q5 8, yi cA q6 8, yi cA q7 800, yi cA q8 8, yi cA q9 8, yi cA q10 5, yi cA q11 512, yi cA q12 512, yi cA q13 10]) 13 2035
  exact hR _ _ _ _ _ _ _ eX12_init_110 (by decide) (by decide) ⟨⟨q1, q2, q3, q4, q5, q6, q7, q8, q9, q10, q11, q12, q13⟩, [0, 1, 2, 3, 4, 5, 6, 7, 8, 9, 10, 11, 12, 13], by decide, rfl, rfl⟩
