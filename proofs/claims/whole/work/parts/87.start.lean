/-! The law's start. -/
def w0 : ww := fun _ _ => 0
theorem up8 (f : Nat → Nat) (b0 b1 b2 b3 b4 b5 b6 b7 : Nat) : va_up (va_up (va_up (va_up (va_up (va_up (va_up (va_up (fun _ => none) 0 (some (f b0))) 1 (some (f b1))) 2 (some (f b2))) 3 (some (f b3))) 4 (some (f b4))) 5 (some (f b5))) 6 (some (f b6))) 7 (some (f b7)) = fun k => (([b0, b1, b2, b3, b4, b5, b6, b7] : List Nat)[k]?).map f := by
  funext k
  match k with
  | 0 => rfl
  | 1 => rfl
  | 2 => rfl
  | 3 => rfl
  | 4 => rfl
  | 5 => rfl
  | 6 => rfl
  | 7 => rfl
  | k + 8 => simp [va_up]
def zPh (φ : Nat → Nat) (l : List Nat) : Nat → Nat := fun o => if o < 57 then φ o else l.getD (o - 57) 0
def zCa (c0 c1 c2 c3 : ClassId) : Nat → ClassId := fun t => ([c0, c1, c2, c3] : List ClassId).getD t c0
def yXg (φ : Nat → Nat) (cA0 cA1 cA2 : ClassId) (r1 r2 : Nat → Option Nat) : va_W := [yo (φ 0) 11 [.ref (φ 1), .ref (φ 10), .ref (φ 17), .ref (φ 24), .ref (φ 31), .ref (φ 40), .int 0],
  ((φ 1), .inl (cA1, 8, .inr (.inr (.inr (.inr r1))))),
  yo (φ 2) 0 [],
  yo (φ 3) 8 [],
  yo (φ 4) 6 [],
  yo (φ 5) 3 [],
  yo (φ 6) 9 [],
  yo (φ 7) 4 [],
  yo (φ 8) 1 [],
  yo (φ 9) 2 [],
  yo (φ 10) 5 [.ref (φ 1), .ref (φ 11), .ref (φ 12), .ref (φ 13), .ref (φ 14), .ref (φ 15), .ref (φ 16), .int 0, .int 0],
  yi cA0 (φ 11) 10,
  yi cA0 (φ 12) 10,
  yi cA0 (φ 13) 10,
  yi cA0 (φ 14) 10,
  yi cA0 (φ 15) 10,
  yi cA0 (φ 16) 10,
  yo (φ 17) 5 [.ref (φ 1), .ref (φ 18), .ref (φ 19), .ref (φ 20), .ref (φ 21), .ref (φ 22), .ref (φ 23), .int 0, .int 0],
  yi cA0 (φ 18) 10,
  yi cA0 (φ 19) 10,
  yi cA0 (φ 20) 10,
  yi cA0 (φ 21) 10,
  yi cA0 (φ 22) 10,
  yi cA0 (φ 23) 10,
  yo (φ 24) 5 [.ref (φ 1), .ref (φ 25), .ref (φ 26), .ref (φ 27), .ref (φ 28), .ref (φ 29), .ref (φ 30), .int 0, .int 0],
  yi cA0 (φ 25) 10,
  yi cA0 (φ 26) 10,
  yi cA0 (φ 27) 10,
  yi cA0 (φ 28) 10,
  yi cA0 (φ 29) 10,
  yi cA0 (φ 30) 10,
  yo (φ 31) 7 [.ref (φ 32), .ref (φ 33), .ref (φ 34), .ref (φ 35), .ref (φ 36), .ref (φ 37), .ref (φ 38), .ref (φ 39), .int 0, .int 0, .int 0],
  yi cA0 (φ 32) 512,
  yi cA0 (φ 33) 512,
  yi cA0 (φ 34) 512,
  yi cA0 (φ 35) 512,
  yi cA0 (φ 36) 512,
  yi cA0 (φ 37) 9,
  yi cA0 (φ 38) 9,
  yi cA0 (φ 39) 9,
  ((φ 40), .inl (cA2, 8, .inr (.inr (.inr (.inr r2))))),
  yo (φ 41) 10 [.ref (φ 42), .int 0, .int 0, .int 0, .int 0, .int 0],
  yi cA0 (φ 42) 100,
  yo (φ 43) 10 [.ref (φ 44), .int 0, .int 0, .int 0, .int 0, .int 0],
  yi cA0 (φ 44) 100,
  yo (φ 45) 10 [.ref (φ 46), .int 0, .int 0, .int 0, .int 0, .int 0],
  yi cA0 (φ 46) 100,
  yo (φ 47) 10 [.ref (φ 48), .int 0, .int 0, .int 0, .int 0, .int 0],
  yi cA0 (φ 48) 100,
  yo (φ 49) 10 [.ref (φ 50), .int 0, .int 0, .int 0, .int 0, .int 0],
  yi cA0 (φ 50) 100,
  yo (φ 51) 10 [.ref (φ 52), .int 0, .int 0, .int 0, .int 0, .int 0],
  yi cA0 (φ 52) 100,
  yo (φ 53) 10 [.ref (φ 54), .int 0, .int 0, .int 0, .int 0, .int 0],
  yi cA0 (φ 54) 100,
  yo (φ 55) 10 [.ref (φ 56), .int 0, .int 0, .int 0, .int 0, .int 0],
  yi cA0 (φ 56) 100]
theorem yXw_g (φ : Nat → Nat) (cA0 cA1 cA2 : ClassId) : yXw φ cA0 cA1 cA2 = yXg φ cA0 cA1 cA2 (va_up (va_up (va_up (va_up (va_up (va_up (va_up (va_up (fun _ => none) 0 (some (φ 2))) 1 (some (φ 3))) 2 (some (φ 4))) 3 (some (φ 5))) 4 (some (φ 6))) 5 (some (φ 7))) 6 (some (φ 8))) 7 (some (φ 9))) (va_up (va_up (va_up (va_up (va_up (va_up (va_up (va_up (fun _ => none) 0 (some (φ 41))) 1 (some (φ 43))) 2 (some (φ 45))) 3 (some (φ 47))) 4 (some (φ 49))) 5 (some (φ 51))) 6 (some (φ 53))) 7 (some (φ 55))) := rfl
set_option maxRecDepth 20000 in
set_option maxHeartbeats 1000000 in
theorem ws_start (φ : Nat → Nat) (cA0 cA1 cA2 cA3 : ClassId) (md q1 q2 q3 q4 q5 q6 q7 q8 q9 q10 q11 q12 q13 ql b : Nat) : (yXw φ cA0 cA1 cA2 ++ yMd cA0 md q1 q2 q3 q4 q5 q6 q7 q8 q9 q10 q11 q12 q13) ++ [(ql, .inl (cA3, 1, .inr (.inl (fun _ => (0 : Int32).toInt64))))] = zWS (zPh φ [md, q1, q2, q3, q4, q5, q6, q7, q8, q9, q10, q11, q12, q13, ql, b]) (zCa cA0 cA1 cA2 cA3) w0 := by
  have e1 : va_up (va_up (va_up (va_up (va_up (va_up (va_up (va_up (fun _ => none) 0 (some (φ 2))) 1 (some (φ 3))) 2 (some (φ 4))) 3 (some (φ 5))) 4 (some (φ 6))) 5 (some (φ 7))) 6 (some (φ 8))) 7 (some (φ 9)) = fun k => (([2, 3, 4, 5, 6, 7, 8, 9] : List Nat)[k]?).map (zPh φ [md, q1, q2, q3, q4, q5, q6, q7, q8, q9, q10, q11, q12, q13, ql, b]) := up8 (zPh φ [md, q1, q2, q3, q4, q5, q6, q7, q8, q9, q10, q11, q12, q13, ql, b]) 2 3 4 5 6 7 8 9
  have e2 : va_up (va_up (va_up (va_up (va_up (va_up (va_up (va_up (fun _ => none) 0 (some (φ 41))) 1 (some (φ 43))) 2 (some (φ 45))) 3 (some (φ 47))) 4 (some (φ 49))) 5 (some (φ 51))) 6 (some (φ 53))) 7 (some (φ 55)) = fun k => (([41, 43, 45, 47, 49, 51, 53, 55] : List Nat)[k]?).map (zPh φ [md, q1, q2, q3, q4, q5, q6, q7, q8, q9, q10, q11, q12, q13, ql, b]) := up8 (zPh φ [md, q1, q2, q3, q4, q5, q6, q7, q8, q9, q10, q11, q12, q13, ql, b]) 41 43 45 47 49 51 53 55
  rw [yXw_g, e1, e2]
  refine List.ext_getElem? (fun i => ?_)
  match i with
  | 0 => rw [zWS_get (o := 0) (sh := (zob 11 [some 1, some 10, some 17, some 24, some 31, some 40, none])) rfl]; rfl
  | 1 => rw [zWS_get (o := 1) (sh := (zra 1 [2, 3, 4, 5, 6, 7, 8, 9])) rfl]; rfl
  | 2 => rw [zWS_get (o := 2) (sh := (zob 0 [])) rfl]; rfl
  | 3 => rw [zWS_get (o := 3) (sh := (zob 8 [])) rfl]; rfl
  | 4 => rw [zWS_get (o := 4) (sh := (zob 6 [])) rfl]; rfl
  | 5 => rw [zWS_get (o := 5) (sh := (zob 3 [])) rfl]; rfl
  | 6 => rw [zWS_get (o := 6) (sh := (zob 9 [])) rfl]; rfl
  | 7 => rw [zWS_get (o := 7) (sh := (zob 4 [])) rfl]; rfl
  | 8 => rw [zWS_get (o := 8) (sh := (zob 1 [])) rfl]; rfl
  | 9 => rw [zWS_get (o := 9) (sh := (zob 2 [])) rfl]; rfl
  | 10 => rw [zWS_get (o := 10) (sh := (zob 5 [some 1, some 11, some 12, some 13, some 14, some 15, some 16, none, none])) rfl]; rfl
  | 11 => rw [zWS_get (o := 11) (sh := (zia 10)) rfl]; rfl
  | 12 => rw [zWS_get (o := 12) (sh := (zia 10)) rfl]; rfl
  | 13 => rw [zWS_get (o := 13) (sh := (zia 10)) rfl]; rfl
  | 14 => rw [zWS_get (o := 14) (sh := (zia 10)) rfl]; rfl
  | 15 => rw [zWS_get (o := 15) (sh := (zia 10)) rfl]; rfl
  | 16 => rw [zWS_get (o := 16) (sh := (zia 10)) rfl]; rfl
  | 17 => rw [zWS_get (o := 17) (sh := (zob 5 [some 1, some 18, some 19, some 20, some 21, some 22, some 23, none, none])) rfl]; rfl
  | 18 => rw [zWS_get (o := 18) (sh := (zia 10)) rfl]; rfl
  | 19 => rw [zWS_get (o := 19) (sh := (zia 10)) rfl]; rfl
  | 20 => rw [zWS_get (o := 20) (sh := (zia 10)) rfl]; rfl
  | 21 => rw [zWS_get (o := 21) (sh := (zia 10)) rfl]; rfl
  | 22 => rw [zWS_get (o := 22) (sh := (zia 10)) rfl]; rfl
  | 23 => rw [zWS_get (o := 23) (sh := (zia 10)) rfl]; rfl
  | 24 => rw [zWS_get (o := 24) (sh := (zob 5 [some 1, some 25, some 26, some 27, some 28, some 29, some 30, none, none])) rfl]; rfl
  | 25 => rw [zWS_get (o := 25) (sh := (zia 10)) rfl]; rfl
  | 26 => rw [zWS_get (o := 26) (sh := (zia 10)) rfl]; rfl
  | 27 => rw [zWS_get (o := 27) (sh := (zia 10)) rfl]; rfl
  | 28 => rw [zWS_get (o := 28) (sh := (zia 10)) rfl]; rfl
  | 29 => rw [zWS_get (o := 29) (sh := (zia 10)) rfl]; rfl
  | 30 => rw [zWS_get (o := 30) (sh := (zia 10)) rfl]; rfl
  | 31 => rw [zWS_get (o := 31) (sh := (zob 7 [some 32, some 33, some 34, some 35, some 36, some 37, some 38, some 39, none, none, none])) rfl]; rfl
  | 32 => rw [zWS_get (o := 32) (sh := (zia 512)) rfl]; rfl
  | 33 => rw [zWS_get (o := 33) (sh := (zia 512)) rfl]; rfl
  | 34 => rw [zWS_get (o := 34) (sh := (zia 512)) rfl]; rfl
  | 35 => rw [zWS_get (o := 35) (sh := (zia 512)) rfl]; rfl
  | 36 => rw [zWS_get (o := 36) (sh := (zia 512)) rfl]; rfl
  | 37 => rw [zWS_get (o := 37) (sh := (zia 9)) rfl]; rfl
  | 38 => rw [zWS_get (o := 38) (sh := (zia 9)) rfl]; rfl
  | 39 => rw [zWS_get (o := 39) (sh := (zia 9)) rfl]; rfl
  | 40 => rw [zWS_get (o := 40) (sh := (zra 2 [41, 43, 45, 47, 49, 51, 53, 55])) rfl]; rfl
  | 41 => rw [zWS_get (o := 41) (sh := (zob 10 [some 42, none, none, none, none, none])) rfl]; rfl
  | 42 => rw [zWS_get (o := 42) (sh := (zia 100)) rfl]; rfl
  | 43 => rw [zWS_get (o := 43) (sh := (zob 10 [some 44, none, none, none, none, none])) rfl]; rfl
  | 44 => rw [zWS_get (o := 44) (sh := (zia 100)) rfl]; rfl
  | 45 => rw [zWS_get (o := 45) (sh := (zob 10 [some 46, none, none, none, none, none])) rfl]; rfl
  | 46 => rw [zWS_get (o := 46) (sh := (zia 100)) rfl]; rfl
  | 47 => rw [zWS_get (o := 47) (sh := (zob 10 [some 48, none, none, none, none, none])) rfl]; rfl
  | 48 => rw [zWS_get (o := 48) (sh := (zia 100)) rfl]; rfl
  | 49 => rw [zWS_get (o := 49) (sh := (zob 10 [some 50, none, none, none, none, none])) rfl]; rfl
  | 50 => rw [zWS_get (o := 50) (sh := (zia 100)) rfl]; rfl
  | 51 => rw [zWS_get (o := 51) (sh := (zob 10 [some 52, none, none, none, none, none])) rfl]; rfl
  | 52 => rw [zWS_get (o := 52) (sh := (zia 100)) rfl]; rfl
  | 53 => rw [zWS_get (o := 53) (sh := (zob 10 [some 54, none, none, none, none, none])) rfl]; rfl
  | 54 => rw [zWS_get (o := 54) (sh := (zia 100)) rfl]; rfl
  | 55 => rw [zWS_get (o := 55) (sh := (zob 10 [some 56, none, none, none, none, none])) rfl]; rfl
  | 56 => rw [zWS_get (o := 56) (sh := (zia 100)) rfl]; rfl
  | 57 => rw [zWS_get (o := 57) (sh := (zob 12 [some 58, some 59, some 60, some 61, some 62, some 63, some 64, some 65, some 66, none, none, none, none, none, none, some 67, some 68, some 69, some 70, none])) rfl]; rfl
  | 58 => rw [zWS_get (o := 58) (sh := (zia 52)) rfl]; rfl
  | 59 => rw [zWS_get (o := 59) (sh := (zia 52)) rfl]; rfl
  | 60 => rw [zWS_get (o := 60) (sh := (zia 52)) rfl]; rfl
  | 61 => rw [zWS_get (o := 61) (sh := (zia 8)) rfl]; rfl
  | 62 => rw [zWS_get (o := 62) (sh := (zia 8)) rfl]; rfl
  | 63 => rw [zWS_get (o := 63) (sh := (zia 8)) rfl]; rfl
  | 64 => rw [zWS_get (o := 64) (sh := (zia 800)) rfl]; rfl
  | 65 => rw [zWS_get (o := 65) (sh := (zia 8)) rfl]; rfl
  | 66 => rw [zWS_get (o := 66) (sh := (zia 8)) rfl]; rfl
  | 67 => rw [zWS_get (o := 67) (sh := (zia 5)) rfl]; rfl
  | 68 => rw [zWS_get (o := 68) (sh := (zia 512)) rfl]; rfl
  | 69 => rw [zWS_get (o := 69) (sh := (zia 512)) rfl]; rfl
  | 70 => rw [zWS_get (o := 70) (sh := (zia 10)) rfl]; rfl
  | 71 => rw [zWS_get (o := 71) (sh := (zla 1)) rfl]; rfl
  | i + 72 => rw [List.getElem?_eq_none (by simp [yXg, yMd]), List.getElem?_eq_none (by simp [zWS, zshapes, zheap, zshelf])]
section YRows3
variable {own : String} {cc : ByteArray} {nL n mc ms : Nat} {isI : Bool} {G : yG} {pc np : Nat} {L : zL} {S : List Value} {tys : yT} {ws : va_W} {ce sl : Nat}
theorem yr_istore (h : yE own cc nL n mc ms isI G) {k : Nat} {x : Int32} (hi : k < nL) (hz : znl L = true) (hd : zD cc pc (.istore k) 2 np) (kk : G np (L.set k (some (.int x))) S tys ws ce sl) : G pc L (.int x :: S) tys ws ce sl := by
  refine h.elim fun p l e R s m args below meth c D A H0 Qm Ts hG hC hB hK0 hA hR hI => ?_
  subst hG
  obtain ⟨hx, hb, hml, hown, hts⟩ := hC
  obtain ⟨hd, rfl⟩ := hd
  intro ls H locs hls hK hP hD hS
  exact lv_istore hx hb hd hls hi rfl (fun ls1 h1 => kk ls1 H locs (zlok.set (φ := id) (v := .int x) hz h1) hK hP hD hS)
theorem yr_newL (h : yE own cc nL n mc ms isI G) {N' : Nat} {k : Int32} (hd : zD cc pc (.newarray .long) 2 np) (hw : Cond.arrayClass .long ∈ big) (hn : ¬ k < 0) (hN : k.toNatClampNeg = N') (hbt : N' ≤ 100000) (h1 : ce + 1 ≤ mc) (h2 : sl + N' ≤ ms)
    (kk : ∀ (q : Nat) (cA : ClassId), G np L (.ref q :: S) (tys ++ [(cA, .long)]) (ws ++ [(q, .inl (cA, N', .inr (.inl (fun _ => (0 : Int32).toInt64))))]) (ce + 1) (sl + N')) : G pc L (.int k :: S) tys ws ce sl := by
  refine h.elim fun p l e R s m args below meth c D A H0 Qm Ts hG hC hB hK0 hA hR hI => ?_
  subst hG
  obtain ⟨hx, hb, hml, hown, hts⟩ := hC
  obtain ⟨hd, rfl⟩ := hd
  intro ls H locs hls hK hP hD hS
  exact va_newa (atype := .long) (ty := .long) (a0 := (N', .inr (.inl (fun _ => (0 : Int32).toInt64)))) hx hb (hts _ (hB _ hw)) rfl hK hP hD hS hA (fun cA => rfl) hn hN (by show N' * 8 ≤ 536870912; omega) (Nat.le_trans h1 hR.2.2.1) (Nat.le_trans h2 hR.2.2.2) hd (fun q cA H1 hK1 hP1 hD1 hS1 => kk q cA ls H1 locs hls hK1 hP1 hD1 hS1)
/-- the class of the arrays of ints is known -/
theorem yr_int (h : yE own cc nL n mc ms isI G) (hw : Cond.arrayClass .int ∈ big) (kk : ∀ cA : ClassId, G pc L S [(cA, .int)] ws ce sl) : G pc L S [] ws ce sl := by
  refine h.elim fun p l e R s m args below meth c D A H0 Qm Ts hG hC hB hK0 hA hR hI => ?_
  subst hG
  obtain ⟨hx, hb, hml, hown, hts⟩ := hC
  intro ls H locs hls hK hP hD hS
  obtain ⟨cA, kA, comp, h1, h2, h3⟩ := Cond.arrayClass_spec (hts _ (hB _ hw))
  refine kk cA ls H locs hls ⟨hK.1, fun k q hk => ?_⟩ hP hD hS
  have hz : k < 1 := (List.getElem?_eq_some_iff.mp hk).1
  rw [show k = 0 by omega] at hk
  cases hk
  exact ⟨fun n z => ⟨fun k h => (by cases h), kA, h2, comp, h3⟩, h1⟩
end YRows3
set_option maxHeartbeats 2000000 in
theorem start_known {s : State} {args : Array Value} (hts : ∀ w ∈ lw_tbl, w.before args s = true) : ∃ D : va_G, yK D [] s := by
  have h0 : ∀ i : Nat, ∃ d : ClassId × (Nat → Nat), ∀ q : vw_C, vwCl[i]? = some q → u_Kn s q.1 q.2.1 q.2.2 d.1 d.2 := by
    intro i
    match i with
    | 0 =>
      obtain ⟨c, f, h⟩ := u_known (C := RX0) (T := TX0) (N := 0) (n := 0) hts (fun w h => by simp [u_ws] at h) (hts _ (List.mem_append_right _ (List.mem_of_getElem? (i := 33) (by decide +kernel))))
      exact ⟨(c, f), fun q hq => by cases hq; exact h⟩
    | 1 =>
      obtain ⟨c, f, h⟩ := u_known (C := RX1) (T := TX1) (N := 0) (n := 0) hts (fun w h => by simp [u_ws] at h) (hts _ (List.mem_append_right _ (List.mem_of_getElem? (i := 75) (by decide +kernel))))
      exact ⟨(c, f), fun q hq => by cases hq; exact h⟩
    | 2 =>
      obtain ⟨c, f, h⟩ := u_known (C := RX2) (T := TX2) (N := 0) (n := 0) hts (fun w h => by simp [u_ws] at h) (hts _ (List.mem_append_right _ (List.mem_of_getElem? (i := 82) (by decide +kernel))))
      exact ⟨(c, f), fun q hq => by cases hq; exact h⟩
    | 3 =>
      obtain ⟨c, f, h⟩ := u_known (C := RX3) (T := TX3) (N := 0) (n := 0) hts (fun w h => by simp [u_ws] at h) (hts _ (List.mem_append_right _ (List.mem_of_getElem? (i := 54) (by decide +kernel))))
      exact ⟨(c, f), fun q hq => by cases hq; exact h⟩
    | 4 =>
      obtain ⟨c, f, h⟩ := u_known (C := RX4) (T := TX4) (N := 0) (n := 0) hts (fun w h => by simp [u_ws] at h) (hts _ (List.mem_append_right _ (List.mem_of_getElem? (i := 68) (by decide +kernel))))
      exact ⟨(c, f), fun q hq => by cases hq; exact h⟩
    | 5 =>
      obtain ⟨c, f, h⟩ := u_known (C := RX5) (T := TX5) (N := 9) (n := 9) hts (fun w h => (List.mem_filter.mp (inX5 w h)).1) (hts _ (List.mem_append_right _ (List.mem_of_getElem? (i := 89) (by decide +kernel))))
      exact ⟨(c, f), fun q hq => by cases hq; exact h⟩
    | 6 =>
      obtain ⟨c, f, h⟩ := u_known (C := RX6) (T := TX6) (N := 0) (n := 0) hts (fun w h => by simp [u_ws] at h) (hts _ (List.mem_append_right _ (List.mem_of_getElem? (i := 47) (by decide +kernel))))
      exact ⟨(c, f), fun q hq => by cases hq; exact h⟩
    | 7 =>
      obtain ⟨c, f, h⟩ := u_known (C := RX7) (T := TX7) (N := 11) (n := 11) hts (fun w h => (List.mem_filter.mp (inX7 w h)).1) (hts _ (List.mem_append_right _ (List.mem_of_getElem? (i := 136) (by decide +kernel))))
      exact ⟨(c, f), fun q hq => by cases hq; exact h⟩
    | 8 =>
      obtain ⟨c, f, h⟩ := u_known (C := RX8) (T := TX8) (N := 0) (n := 0) hts (fun w h => by simp [u_ws] at h) (hts _ (List.mem_append_right _ (List.mem_of_getElem? (i := 40) (by decide +kernel))))
      exact ⟨(c, f), fun q hq => by cases hq; exact h⟩
    | 9 =>
      obtain ⟨c, f, h⟩ := u_known (C := RX9) (T := TX9) (N := 0) (n := 0) hts (fun w h => by simp [u_ws] at h) (hts _ (List.mem_append_right _ (List.mem_of_getElem? (i := 61) (by decide +kernel))))
      exact ⟨(c, f), fun q hq => by cases hq; exact h⟩
    | 10 =>
      obtain ⟨c, f, h⟩ := u_known (C := RX10) (T := TX10) (N := 6) (n := 6) hts (fun w h => (List.mem_filter.mp (inX10 w h)).1) (hts _ (List.mem_append_right _ (List.mem_of_getElem? (i := 177) (by decide +kernel))))
      exact ⟨(c, f), fun q hq => by cases hq; exact h⟩
    | 11 =>
      obtain ⟨c, f, h⟩ := u_known (C := RX11) (T := TX11) (N := 7) (n := 7) hts (fun w h => (List.mem_filter.mp (inX11 w h)).1) (hts _ (List.mem_append_right _ (List.mem_of_getElem? (i := 24) (by decide +kernel))))
      exact ⟨(c, f), fun q hq => by cases hq; exact h⟩
    | 12 =>
      obtain ⟨c, f, h⟩ := u_known (C := RX12) (T := TX12) (N := 20) (n := 20) hts (fun w h => (List.mem_filter.mp (inX12 w h)).1) (hts _ (List.mem_append_right _ (List.mem_of_getElem? (i := 903) (by decide +kernel))))
      exact ⟨(c, f), fun q hq => by cases hq; exact h⟩
    | i + 13 => exact ⟨(0, id), fun q hq => by simp [vwCl] at hq⟩
  obtain ⟨f, hf⟩ := Classical.axiomOfChoice h0
  refine ⟨(fun i => (f i).1, fun i => (f i).2), ⟨fun i q hq => hf i q hq, fun k q h => by simp at h⟩, fun w hw => ?_, va_AO.of (hts _ (List.mem_append_right _ (List.mem_of_getElem? (i := 32) (by decide +kernel)))), va_AO.of (hts _ (List.mem_append_right _ (List.mem_of_getElem? (i := 176) (by decide +kernel)))), fun w hw => ?_⟩
  · have h1 := (List.mem_filter.mp hw).2
    refine va_Nw.of ?_ (hts w (List.mem_append_right _ (List.mem_filter.mp hw).1))
    cases w <;> first | rfl | (cases h1; done)
  · have h1 := (List.mem_filter.mp hw).2
    refine va_Nw.of ?_ (hts w (List.mem_append_right _ (List.mem_filter.mp hw).1))
    cases w <;> first | rfl | (cases h1; done)
set_option maxHeartbeats 2000000 in
theorem start_exc {s : State} {b : Nat} (hts : ∀ w ∈ lw_tbl, w.before #[Value.ref b] s = true) (hgv : (Jvm.Cond.and given_1 narrow_1).before #[Value.ref b] s = true) (hC : ∀ w ∈ casts, va_Nw w s) : zXf (lwA s) s := by
  have hA0 : ∀ a : Nat, a < s.heap.size → ¬ lwA s a := fun a h q => absurd h (Nat.not_lt.mpr q)
  have hf := flat_of_before _ hgv
  refine ⟨vx_Zqof (hts _ (List.mem_append_right _ (List.mem_of_getElem? (i := 806) (by decide +kernel)))) (hts _ (List.mem_append_right _ (List.mem_of_getElem? (i := 17) (by decide +kernel)))) (hf _ (by decide +kernel)) hA0, vx_Zqof (hts _ (List.mem_append_right _ (List.mem_of_getElem? (i := 808) (by decide +kernel)))) (hts _ (List.mem_append_right _ (List.mem_of_getElem? (i := 17) (by decide +kernel)))) (hf _ (by decide +kernel)) hA0, fun q hq => ?_, fun q hq => ?_, hC⟩
  · simp only [xstr, List.mem_cons, List.not_mem_nil, or_false] at hq
    rcases hq with rfl | rfl | rfl | rfl | rfl
    · obtain ⟨a, -, -, -, he, -⟩ := Cond.exactly_spec (hf (.exactly (.string "BowlsWithin$Flat" 16) "java/lang/String") (by decide +kernel))
      exact ⟨a, vk_R.of (hts _ (List.mem_append_right _ (List.mem_of_getElem? (i := 820) (by decide +kernel)))) he⟩
    · obtain ⟨a, -, -, -, he, -⟩ := Cond.exactly_spec (hf (.exactly (.string "BowlsWithin$Glued" 21) "java/lang/String") (by decide +kernel))
      exact ⟨a, vk_R.of (hts _ (List.mem_append_right _ (List.mem_of_getElem? (i := 860) (by decide +kernel)))) he⟩
    · obtain ⟨a, -, -, -, he, -⟩ := Cond.exactly_spec (hf (.exactly (.string "BowlsWithin$Bowl" 11) "java/lang/String") (by decide +kernel))
      exact ⟨a, vk_R.of (hts _ (List.mem_append_right _ (List.mem_of_getElem? (i := 882) (by decide +kernel)))) he⟩
    · obtain ⟨a, -, -, -, he, -⟩ := Cond.exactly_spec (hf (.exactly (.string "BowlsWithin" 260) "java/lang/String") (by decide +kernel))
      exact ⟨a, vk_R.of (hts _ (List.mem_append_right _ (List.mem_of_getElem? (i := 898) (by decide +kernel)))) he⟩
    · obtain ⟨a, -, -, -, he, -⟩ := Cond.exactly_spec (hf (.exactly (.string "BowlsWithin" 270) "java/lang/String") (by decide +kernel))
      exact ⟨a, vk_R.of (hts _ (List.mem_append_right _ (List.mem_of_getElem? (i := 900) (by decide +kernel)))) he⟩
  · simp only [xnc, List.mem_cons, List.not_mem_nil, or_false] at hq
    rcases hq with rfl | rfl | rfl
    · exact va_Nc.of (hf (.not (.castable "java/lang/IllegalArgumentException" "java/lang/UnsupportedOperationException")) (by decide +kernel))
    · exact va_Nc.of (hf (.not (.castable "java/lang/IllegalStateException" "java/lang/UnsupportedOperationException")) (by decide +kernel))
    · exact va_Nc.of (hf (.not (.castable "java/lang/IllegalStateException" "java/lang/IllegalArgumentException")) (by decide +kernel))
set_option maxHeartbeats 8000000 in
set_option maxRecDepth 20000 in
theorem whole_start {p : Program} {e : Env} {s : State} {m : MethodId} {below : List Frame} {meth : Method} {c : Code} (l : Launch) (hflags : l.flags = flags0) {b L : Nat} {xs : Nat → Int32} (hL : L ≤ 3072) (C0 : lw_At p s m meth c b L xs) : W p l e room_1 s m #[Value.ref b] below meth c s.heap [] 0 0 (lw_Z below #[Value.ref b] s) (entryFrame m ([Value.ref b] : List Value).toArray 8) := by
  obtain ⟨hx, hb, hr, hml, hown, hts, hX, hbl, hlocks, hgv⟩ := C0
  have hst : l.stackTraces = false := by
    unfold Launch.stackTraces
    rw [hflags]
    decide +kernel
  have hcall : CallFix p m c cL_law 8 s #[Value.ref b] lw_tbl RL := ⟨hx, hb, hml, hown, hts⟩
  obtain ⟨D, hK⟩ := start_known hts
  have hZ := start_exc hts hgv hK.2.2.2.2
  obtain ⟨G, hG⟩ : ∃ G : yG, G = yV p l e room_1 s m #[Value.ref b] below meth c 8 D (lwA s) s.heap (lw_Z below #[Value.ref b] s) := ⟨_, rfl⟩
  have hE : yE RL cL_law 8 1000 601024 7293034 false G := ⟨p, l, e, room_1, s, m, #[Value.ref b], below, meth, c, D, lwA s, s.heap, _, lw_tbl, hG, hcall, fun w hw => (List.mem_filter.mp hw).1, hK, fun q h => h, ⟨Nat.le_of_ble_eq_true rfl, Nat.le_of_ble_eq_true rfl, Nat.le_refl _, Nat.le_refl _⟩, fun h => by cases h⟩
  rw [lg_entry_eq]
  have hl := lv_entry [Value.ref b] (n := 8) (Nat.le_of_ble_eq_true rfl)
  have hls : zlok id ((lg_sl [Value.ref b] ++ List.replicate (8 - (lg_sl [Value.ref b]).length) Slot.unset).toArray) 8 (zel [.ref b]) :=
    ⟨hl.1, hl.2.1, fun q hq => hl.2.2 q (by have := zel_mem id [Value.ref b] 0 q hq; rw [map_tv_id] at this; exact this)⟩
  have hls := zlok.sub hls (zpad_sub 8 (zel [.ref b]))
  have main : G 0 (zpad 8 (zel [.ref b])) [] [] [] 0 0 := by
    refine yr_int hE (big_in (List.mem_of_getElem? (i := 134) (by decide +kernel)) rfl) (fun cA0 => ?_)
    refine yr_new hE (ci := 11) (fs := [.null, .null, .null, .null, .null, .null, .int 0]) tyX11 eL_law_0 rfl inX11 tyX11_ok (big_in (List.mem_of_getElem? (i := 23) (by decide +kernel)) rfl) (big_in (List.mem_of_getElem? (i := 24) (by decide +kernel)) rfl) ikRX11 (fun j hj => match j, hj with | 0, _ => rfl | 1, _ => rfl | 2, _ => rfl | 3, _ => rfl | 4, _ => rfl | 5, _ => rfl | 6, _ => rfl | j + 7, hj => absurd hj (by omega)) (by decide) (by decide) (fun a => ?_)
    refine yr_dup hE rfl eL_law_3 ?_
    refine yr_call (As := []) (wr := []) hE (fun u => [(cA0, .int), (u.2.1, .object "BowlsWithin$Bowl"), (u.2.2, .object "BowlsWithin$Shelf")]) eL_law_4 (⟨Or.inl (big_in (List.mem_of_getElem? (i := 25) (by decide +kernel)) rfl), ckX11_init, ikRX11, dkX11_init, by decide⟩) nkX11_init rfl (i_X11 cA0 a) rfl [0] [0] [] rfl rfl rfl (by decide) (by decide) (fun i h => nomatch h) (by decide) (Nat.le_of_ble_eq_true rfl) (Nat.le_of_ble_eq_true rfl) (Nat.le_of_ble_eq_true rfl) (fun _ _ _ _ h => h) (fun u => ?_)
    obtain ⟨⟨φ, hφ⟩, cA1, cA2⟩ := u
    show G 7 _ [.ref a] [(cA0, .int), (cA1, .object "BowlsWithin$Bowl"), (cA2, .object "BowlsWithin$Shelf")] (yXw φ cA0 cA1 cA2) 57 3676
    subst hφ
    refine yr_astore_n hE (by decide) rfl eL_law_7 ?_
    refine yr_new hE (ci := 12) (fs := [.null, .null, .null, .null, .null, .null, .null, .null, .null, .int 0, .int 0, .int 0, .int 0, .int 0, .int 0, .null, .null, .null, .null, .int 0]) tyX12 eL_law_8 rfl inX12 tyX12_ok (big_in (List.mem_of_getElem? (i := 902) (by decide +kernel)) rfl) (big_in (List.mem_of_getElem? (i := 903) (by decide +kernel)) rfl) ikRX12 (fun j hj => match j, hj with | 0, _ => rfl | 1, _ => rfl | 2, _ => rfl | 3, _ => rfl | 4, _ => rfl | 5, _ => rfl | 6, _ => rfl | 7, _ => rfl | 8, _ => rfl | 9, _ => rfl | 10, _ => rfl | 11, _ => rfl | 12, _ => rfl | 13, _ => rfl | 14, _ => rfl | 15, _ => rfl | 16, _ => rfl | 17, _ => rfl | 18, _ => rfl | 19, _ => rfl | j + 20, hj => absurd hj (by omega)) (by decide) (by decide) (fun md => ?_)
    refine yr_dup hE rfl eL_law_11 ?_
    refine yr_call (As := []) (wr := yXw φ cA0 cA1 cA2) hE (fun _ => [(cA0, .int), (cA1, .object "BowlsWithin$Bowl"), (cA2, .object "BowlsWithin$Shelf")]) eL_law_12 (⟨Or.inl (big_in (List.mem_of_getElem? (i := 904) (by decide +kernel)) rfl), ckX12_init, ikRX12, dkX12_init, by decide⟩) nkX12_init rfl (i_X12 cA0 md) rfl [0] [57] [0, 1, 2, 3, 4, 5, 6, 7, 8, 9, 10, 11, 12, 13, 14, 15, 16, 17, 18, 19, 20, 21, 22, 23, 24, 25, 26, 27, 28, 29, 30, 31, 32, 33, 34, 35, 36, 37, 38, 39, 40, 41, 42, 43, 44, 45, 46, 47, 48, 49, 50, 51, 52, 53, 54, 55, 56] rfl rfl rfl (by decide) (by decide) (by decide) (by decide) (Nat.le_of_ble_eq_true rfl) (Nat.le_of_ble_eq_true rfl) (Nat.le_of_ble_eq_true rfl) (fun _ _ _ h _ => h) (fun u => ?_)
    obtain ⟨q1, q2, q3, q4, q5, q6, q7, q8, q9, q10, q11, q12, q13⟩ := u
    refine yr_astore_n hE (by decide) rfl eL_law_15 ?_
    refine yr_iconst hE (v := 1) (by decide) eL_law_16 ?_
    refine yr_newL hE (N' := 1) eL_law_17 (big_in (List.mem_of_getElem? (i := 1286) (by decide +kernel)) rfl) (by decide) (by decide) (by decide) (Nat.le_of_ble_eq_true rfl) (Nat.le_of_ble_eq_true rfl) (fun ql cA3 => ?_)
    refine yr_astore_n hE (by decide) rfl eL_law_19 ?_
    refine yr_iconst hE (v := nI (6 * 0)) (by decide) eL_law_20 ?_
    refine yr_istore hE (by decide) rfl eL_law_21 ?_
    rw [hG]
    intro ls H locs hls hK2 hP hD hS
    have hW : yLW L xs (fun ce sl => zV p l e room_1 s m #[Value.ref b] below meth c 8 (zPh φ [md, q1, q2, q3, q4, q5, q6, q7, q8, q9, q10, q11, q12, q13, ql, b]) (zCa cA0 cA1 cA2 cA3) D (lwA s) s.heap ce sl (lw_Z below #[Value.ref b] s)) :=
      ⟨p, l, e, s, m, b, below, meth, c, zPh φ [md, q1, q2, q3, q4, q5, q6, q7, q8, q9, q10, q11, q12, q13, ql, b], zCa cA0 cA1 cA2 cA3, D, fun _ _ => rfl, hcall, ⟨hK2, hK.2.1⟩, hst, hZ, hX, hbl, rfl, hlocks, hr⟩
    have fin := law_loop hW hL 513 0 72 5732 w0 (Nat.zero_le _) (by omega) (Nat.le_of_ble_eq_true rfl) (Nat.le_of_ble_eq_true rfl) Inv0
    have e := ws_start φ cA0 cA1 cA2 cA3 md q1 q2 q3 q4 q5 q6 q7 q8 q9 q10 q11 q12 q13 ql b
    exact fin ls H locs hls (e ▸ hP) (e ▸ hD) hS
  rw [hG] at main
  exact main _ s.heap [] hls hK.1 (fun k q h => by simp at h) ⟨fun i j p q h => by simp at h, fun k q h => by simp at h⟩ va_S.rf
set_option maxHeartbeats 4000000 in
theorem lw_walk (l : Launch) (hflags : l.flags = flags0) (b : Addr) (xs : List Int32) : MetFree l x (headSpec (Jvm.Cond.code x code maxLocals ret :: tables_1) room_1) (lw_P b xs) (fun _ _ _ _ _ => True) lw_Q := by
  refine MetFree.of_bodyS (code := code) (maxLocals := maxLocals) (ret := ret) (by decide) ?_ ?_
  · intro args s m h hn
    obtain ⟨meth, c, h1, h2, h3, h4, h5, h6, -, -⟩ := Cond.code_spec hn (atoms_spec (ws := Jvm.Cond.code x code maxLocals ret :: tables_1) h _ List.mem_cons_self)
    exact ⟨meth, c, h1, h2, h3, h4, h5, h6⟩
  · intro p e s m args below meth c s₁ B hml0 hP _
    obtain ⟨rfl, hx, hbd, hgv⟩ := hP
    obtain ⟨scr, harrAt, hlist, hof, hsmall⟩ := hx
    obtain ⟨hcb, hkn, -, -⟩ := State.arrayAt?_spec harrAt
    have hown : s.vm.findClass R_law = some m.cls := findClass_of_methodNamed B.named
    have hts0 : ∀ c ∈ (Jvm.Cond.code x code maxLocals ret :: tables_1), c.before #[Value.ref b] s = true := atoms_spec (ws := Jvm.Cond.code x code maxLocals ret :: tables_1) B.pre
    have hts : ∀ w ∈ lw_tbl, w.before #[Value.ref b] s = true := k2_hts_sels lw_privs (fun w hw => hts0 w (List.mem_cons_of_mem _ hw)) lw_privs_ok
    have hml : c.maxLocals = 8 := B.maxLocals_eq (hts0 _ List.mem_cons_self)
    have X₀ : Stand p l e room_1 s m #[Value.ref b] below meth c s₁ [] 0 0 := Stand.of_body B
    have hh0 : s₁.heap = s.heap := by rw [B.state]; rfl
    have hsz : scr.slots.size = xs.length := by rw [← Array.length_toList, hlist, List.length_map]
    have hval : ∀ j : Nat, j < xs.length → scr.slots[j]? = some (.int (xs.getD j 0)) := fun j hj => by
      rw [← Array.getElem?_toList, hlist]
      simp [hj]
    have hbl : b < s.heap.size := (Array.getElem?_eq_some_iff.mp hcb).1
    have hX : va_X b xs.length (fun j => xs.getD j 0) s s.heap := ⟨scr, hcb, hof, hkn, hsz, hval⟩
    have K : W p l e room_1 s m #[Value.ref b] below meth c s₁.heap [] 0 0 (lw_Z below #[Value.ref b] s) (entryFrame m ([Value.ref b] : List Value).toArray 8) := by
      rw [hh0]
      exact whole_start l hflags hbd ⟨B.exec, B.bytes, B.returns, hml, hown, hts, hX, hbl, B.notSynchronized, hgv⟩
    obtain ⟨t, a1, o, b1, b2, b3⟩ := K s₁ rfl X₀
    exact ⟨t, o, a1, b1, b2, b3⟩
theorem lw_pre_spec {args : Array Value} {s : State} (h : (Jvm.Cond.and given_1 narrow_1).before args s = true) (hr : rest_1_c.before args s = true) : ∃ (b : Addr) (xs : List Int32), lw_P b xs args s := by
  have hs := flat_of_before _ h
  have hq := flat_of_before _ hr
  have hc : (Cond.count 1).before args s = true := hs _ (by decide +kernel)
  have harr : (Cond.arrayOf (.arg 0) .int).before args s = true := hs _ (by decide +kernel)
  have hle : (Cond.le (.length (.arg 0)) (.int 3072)).before args s = true := hs _ (by decide +kernel)
  have hlen : (Cond.isInt (.length (.arg 0))).before args s = true := hq _ (by decide +kernel)
  have hall : (Cond.all (.arg 0) (.isInt (.elem (.arg 0) (.index 0)))).before args s = true := hq _ (by decide +kernel)
  obtain ⟨b, xs, hb, hx⟩ := State.ints_of_pre rfl harr hlen hall
  have hsm : xs.length < 2 ^ 31 := hx.choose_spec.2.2.2
  have hev : (Term.length (.arg 0)).eval args s none [] s = some (.int xs.length.toInt32) := hx.length_eval hb
  have hv := Cond.le_ints hev (show (Term.int 3072).eval args s none [] s = some (.int 3072) from rfl)
  have hd : xs.length.toInt32 ≤ 3072 := by
    simpa [Cond.before, Cond.holds, hv] using hle
  have hN : xs.length ≤ 3072 := (Int32.ofNat_le_ofNat hsm (by decide)).mp (show Int32.ofNat xs.length ≤ Int32.ofNat 3072 from hd)
  exact ⟨b, xs, Cond.one_arg hc (show args[0]? = some (.ref b) from hb), hx, hN, h⟩
theorem lw_comes (l : Launch) (hflags : l.flags = flags0) : Comes l x (Jvm.Cond.code x code maxLocals ret :: tables_1) room_1 (fun tb e args s => Calls_1 tb e args s ∧ rest_1 tb e args s ∧ Pre_1 tb e args s)
    (fun _ _ args s o t => lw_Q args s o t) := by
  intro p e ha hc hk s m args below hf hfit hheap happ hpre
  obtain ⟨b, xs, hP⟩ := lw_pre_spec hpre.2.2 hpre.2.1
  obtain ⟨k, o, h1, h2, h3, hQ⟩ := lw_walk l hflags b xs p e ha hc hk s m args below hf ((Spec.applies_iff_loose hf).mp happ).1 hP trivial
  exact ⟨k, o, h1, h2, h3, hQ⟩
theorem lw_frame {s t : State} {o : Outcome} {args : Array Value} (h : Framed s o t [] 601024 7293034) :
    Framed s o t (fieldLocs frame_1_writes args s ++ arrayLocs frame_1_arrays args s ++ staticLocs frame_1_statics s) 601024 7293034 := h
theorem lw_limb (L : Cond) (hL : ∀ (args : Array Value) (s t : State), L.after args s (.returned (some (.int 1))) t = true) :
    ArmFor flags0 classFile x code maxLocals ret World_1 tables_1 room_1 Calls_1 rest_1 Pre_1
      (fun tb e a s o t => postC L tb e a s o t ∧ Framed s o t (fieldLocs frame_1_writes a s ++ arrayLocs frame_1_arrays a s ++ staticLocs frame_1_statics s) 601024 7293034) := by
  intro l hflags _ _ p e ha hc hk s m args below hf hfit hheap happ hpre
  obtain ⟨k, o, h1, h2, h3, rfl, hF⟩ := lw_comes l hflags p e ha hc hk s m args below hf hfit hheap happ hpre
  exact ⟨k, _, h1, h2, h3, hL args s _, lw_frame hF⟩
theorem i_vc : Claimed_1_1 ∧ Claimed_1_2 := ⟨lw_limb limb_1_1 (fun args s t => by simp [limb_1_1, Cond.after, Cond.holds, Cond.value]), lw_limb limb_1_2 (fun args s t => Cond.after_iff.mpr (by
  first | (rw [show limb_1_2 = Cond.eq .result (.int 1) from rfl, Cond.eq_ints (x := 1) (y := 1) rfl rfl]; simp; done) | (simp [limb_1_2, Cond.value, Term.eval]; done)))⟩

