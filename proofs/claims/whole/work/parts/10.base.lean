/-! Shapes of the objects; rows for counters, Bools, switches, calls by the number of arguments. -/
def bi (b : Bool) : Int32 := match b with | true => 1 | false => 0
theorem narrow_bi (b : Bool) : narrow .boolean (.int (bi b)) = .int (bi b) := by cases b <;> rfl
theorem bi_t {b : Bool} (h : ¬ bi b = 0) : b = true := by cases b <;> simp_all [bi]
theorem bi_f {b : Bool} (h : bi b = 0) : b = false := by cases b <;> simp_all [bi]
def zH (h : Nat) : Prop := h = 10 ∨ h = 17 ∨ h = 24
theorem zH10 : zH 10 := Or.inl rfl
theorem zH17 : zH 17 := Or.inr (Or.inl rfl)
theorem zH24 : zH 24 := Or.inr (Or.inr rfl)
theorem zH.s0 {h : Nat} (hh : zH h) : zshapes[h]? = some (zob 5 [some 1, some (h+1), some (h+2), some (h+3), some (h+4), some (h+5), some (h+6), none, none]) := by rcases hh with rfl | rfl | rfl <;> rfl
theorem zH.s1 {h : Nat} (hh : zH h) : zshapes[h+1]? = some (zia 10) := by rcases hh with rfl | rfl | rfl <;> rfl
theorem zH.s2 {h : Nat} (hh : zH h) : zshapes[h+2]? = some (zia 10) := by rcases hh with rfl | rfl | rfl <;> rfl
theorem zH.s3 {h : Nat} (hh : zH h) : zshapes[h+3]? = some (zia 10) := by rcases hh with rfl | rfl | rfl <;> rfl
theorem zH.s4 {h : Nat} (hh : zH h) : zshapes[h+4]? = some (zia 10) := by rcases hh with rfl | rfl | rfl <;> rfl
theorem zH.s5 {h : Nat} (hh : zH h) : zshapes[h+5]? = some (zia 10) := by rcases hh with rfl | rfl | rfl <;> rfl
theorem zH.s6 {h : Nat} (hh : zH h) : zshapes[h+6]? = some (zia 10) := by rcases hh with rfl | rfl | rfl <;> rfl
def zSf (h : Nat) : Prop := ∃ d, d < 8 ∧ h = 41 + 2 * d
theorem zSf.of {d : Nat} (hd : d < 8) : zSf (41 + 2 * d) := ⟨d, hd, rfl⟩
theorem zSf.cases {h : Nat} (hh : zSf h) : h = 41 ∨ h = 43 ∨ h = 45 ∨ h = 47 ∨ h = 49 ∨ h = 51 ∨ h = 53 ∨ h = 55 := by obtain ⟨d, hd, rfl⟩ := hh; omega
theorem zSf.s0 {h : Nat} (hh : zSf h) : zshapes[h]? = some (zob 10 [some (h+1), none, none, none, none, none]) := by rcases hh.cases with rfl | rfl | rfl | rfl | rfl | rfl | rfl | rfl <;> rfl
theorem zSf.s1 {h : Nat} (hh : zSf h) : zshapes[h+1]? = some (zia 100) := by rcases hh.cases with rfl | rfl | rfl | rfl | rfl | rfl | rfl | rfl <;> rfl
theorem zs0 : zshapes[0]? = some (zob 11 [some 1, some 10, some 17, some 24, some 31, some 40, none]) := rfl
theorem zs31 : zshapes[31]? = some (zob 7 [some 32, some 33, some 34, some 35, some 36, some 37, some 38, some 39, none, none, none]) := rfl
theorem zs57 : zshapes[57]? = some (zob 12 [some 58, some 59, some 60, some 61, some 62, some 63, some 64, some 65, some 66, none, none, none, none, none, none, some 67, some 68, some 69, some 70, none]) := rfl
theorem zs32 : zshapes[32]? = some (zia 512) := rfl
theorem zs33 : zshapes[33]? = some (zia 512) := rfl
theorem zs34 : zshapes[34]? = some (zia 512) := rfl
theorem zs35 : zshapes[35]? = some (zia 512) := rfl
theorem zs36 : zshapes[36]? = some (zia 512) := rfl
theorem zs37 : zshapes[37]? = some (zia 9) := rfl
theorem zs38 : zshapes[38]? = some (zia 9) := rfl
theorem zs39 : zshapes[39]? = some (zia 9) := rfl
theorem zs58 : zshapes[58]? = some (zia 52) := rfl
theorem zs59 : zshapes[59]? = some (zia 52) := rfl
theorem zs60 : zshapes[60]? = some (zia 52) := rfl
theorem zs61 : zshapes[61]? = some (zia 8) := rfl
theorem zs62 : zshapes[62]? = some (zia 8) := rfl
theorem zs63 : zshapes[63]? = some (zia 8) := rfl
theorem zs64 : zshapes[64]? = some (zia 800) := rfl
theorem zs65 : zshapes[65]? = some (zia 8) := rfl
theorem zs66 : zshapes[66]? = some (zia 8) := rfl
theorem zs67 : zshapes[67]? = some (zia 5) := rfl
theorem zs68 : zshapes[68]? = some (zia 512) := rfl
theorem zs69 : zshapes[69]? = some (zia 512) := rfl
theorem zs70 : zshapes[70]? = some (zia 10) := rfl
theorem zs71 : zshapes[71]? = some (zla 1) := rfl
theorem vp_lt {i : Int32} {n : Nat} (h : vp_in i n) : i.toNatClampNeg < n := Nat.not_le.mp fun q => h (Or.inr q)
theorem vp_mono {i : Int32} {n m : Nat} (h : vp_in i n) (hm : n ≤ m) : vp_in i m := fun q => h (q.elim Or.inl (fun q => Or.inr (Nat.le_trans hm q)))
section ZBase
variable {own : String} {cc : ByteArray} {nL n : Nat} {G : zG} {pc np : Nat} {L : zL} {S : List Value} {w : ww}
theorem zr_kinds (h : zE own cc nL n G) {i : Int32} (hd : zD cc pc .aaload 1 np) (hin : vp_in i 8) (kk : G np L (.ref (2 + i.toNatClampNeg) :: S) w) : G pc L (.int i :: .ref 1 :: S) w :=
  zr_aald h (o := 1) (t := 1) (l0 := [2, 3, 4, 5, 6, 7, 8, 9]) (r := 2 + i.toNatClampNeg) hd rfl (Or.inl rfl) hin (by
    have := vp_lt hin
    generalize i.toNatClampNeg = k at this ⊢
    rcases (show k = 0 ∨ k = 1 ∨ k = 2 ∨ k = 3 ∨ k = 4 ∨ k = 5 ∨ k = 6 ∨ k = 7 by omega) with rfl | rfl | rfl | rfl | rfl | rfl | rfl | rfl <;> rfl) kk
theorem zr_shelves (h : zE own cc nL n G) {i : Int32} (hd : zD cc pc .aaload 1 np) (hin : vp_in i 8) (kk : G np L (.ref (41 + 2 * i.toNatClampNeg) :: S) w) : G pc L (.int i :: .ref 40 :: S) w :=
  zr_aald h (o := 40) (t := 2) (l0 := [41, 43, 45, 47, 49, 51, 53, 55]) (r := 41 + 2 * i.toNatClampNeg) hd rfl (Or.inr rfl) hin (by
    have := vp_lt hin
    generalize i.toNatClampNeg = k at this ⊢
    rcases (show k = 0 ∨ k = 1 ∨ k = 2 ∨ k = 3 ∨ k = 4 ∨ k = 5 ∨ k = 6 ∨ k = 7 by omega) with rfl | rfl | rfl | rfl | rfl | rfl | rfl | rfl <;> rfl) kk
theorem zr_iincN (h : zE own cc nL n G) {k i : Nat} (hd : zD cc pc (.iinc k 1) 3 np) (hl : L[k]? = some (some (.int (nI i)))) (hi : k < nL) (hz : znl L = true) (kk : G np (L.set k (some (.int (nI (i + 1))))) S w) : G pc L S w :=
  zr_iinc h hd hl (v := nI (i + 1)) (by rw [show Int32.ofInt 1 = (1 : Int32) from rfl]; exact nI_1 i) hi hz kk
theorem zr_idecN (h : zE own cc nL n G) {k i : Nat} (hd : zD cc pc (.iinc k (-1)) 3 np) (hl : L[k]? = some (some (.int (nI (i + 1))))) (hi : k < nL) (hz : znl L = true) (kk : G np (L.set k (some (.int (nI i)))) S w) : G pc L S w :=
  zr_iinc h hd hl (v := nI i) (by rw [show Int32.ofInt (-1) = (-1 : Int32) from rfl, ← nI_pred i, Int32.sub_eq_add_neg]) hi hz kk
theorem zr_beq (h : zE own cc nL n G) {off : Int} (hd : zD cc pc (.ifCond .eq off) 3 np) {tgt : Nat} {b : Bool} (ht : (pc : Int) + off = (tgt : Int)) (kt : b = false → G tgt L S w) (kf : b = true → G np L S w) : G pc L (.int (bi b) :: S) w :=
  zr_if_eq h hd ht (fun q => kt (bi_f q)) (fun q => kf (bi_t q))
theorem zr_bne (h : zE own cc nL n G) {off : Int} (hd : zD cc pc (.ifCond .ne off) 3 np) {tgt : Nat} {b : Bool} (ht : (pc : Int) + off = (tgt : Int)) (kt : b = true → G tgt L S w) (kf : b = false → G np L S w) : G pc L (.int (bi b) :: S) w :=
  zr_if_ne h hd ht (fun q => kt (bi_t q)) (fun q => kf (bi_f q))
theorem zne {x z : Int32} (h : ¬ x = z) {v : Int} (hv : z.toInt = v) : ¬ x.toInt = v := fun q => h (Int32.toInt_inj.mp (q.trans hv.symm))
theorem zr_tswK (h : zE own cc nL n G) {dflt lo hi : Int} {offs : Array Int} {len : Nat} {x : Int32} (hd : zD cc pc (.tableswitch dflt lo hi offs) len np) (v off : Int) (tgt : Nat) (z : Int32) (hv : z.toInt = v) (h1 : ¬ v < lo) (h2 : ¬ hi < v) (ho : offs[(v - lo).toNat]? = some off) (ht : (pc : Int) + off = (tgt : Int)) (kt : x = z → G tgt L S w) (kf : ¬ x = z → G pc L (.int x :: S) w) : G pc L (.int x :: S) w := by
  by_cases q : x = z
  · have e : x.toInt = v := by rw [q, hv]
    exact zr_tableIn h hd (by rw [e]; exact h1) (by rw [e]; exact h2) (by rw [e]; exact ho) ht (kt q)
  · exact kf q
theorem zr_lswK (h : zE own cc nL n G) {dflt : Int} {ps : Array (Int × Int)} {len : Nat} {x : Int32} (hd : zD cc pc (.lookupswitch dflt ps) len np) (hp : (ps.toList.zip (ps.toList.drop 1)).all (fun (a, next) => a.1 < next.1) = true) (v off : Int) (tgt : Nat) (z : Int32) (hv : z.toInt = v) (ho : Op.lookupswitch.offset ps.toList dflt v = off) (ht : (pc : Int) + off = (tgt : Int)) (kt : x = z → G tgt L S w) (kf : ¬ x = z → G pc L (.int x :: S) w) : G pc L (.int x :: S) w := by
  by_cases q : x = z
  · have e : x.toInt = v := by rw [q, hv]
    exact zr_lookup h hd hp (by rw [e]; exact ho) ht (kt q)
  · exact kf q
theorem zr_callV0 (h : zE own cc nL n G) {idx k o ci : Nat} {fl : List (Option Nat)} {q : vw_C} {M : zM} (hd : zD cc pc (.invokevirtual idx) 3 np) (hl : zLv own idx M 0) (hs : zshapes[o]? = some (zob ci fl)) (hq : vwCl[ci]? = some q) (hqc : q.1 = M.1.cls) (hn : k + 1 ≤ n) (hcat : zcat S ≤ 8) (hc : Ct M k [.ref o] w (fun r w2 => G np L (zpush r S) w2)) : G pc L (.ref o :: S) w :=
  zr_callV h (As := []) hd hl hs hq hqc hn rfl hcat hc
theorem zr_callU0 (h : zE own cc nL n G) {idx k o ci : Nat} {fl : List (Option Nat)} {q : vw_C} {M : zM} {x : MethodName} (hd : zD cc pc (.invokevirtual idx) 3 np) (hl : zLu own idx x q.1 M 0) (hs : zshapes[o]? = some (zob ci fl)) (hq : vwCl[ci]? = some q) (hn : k + 1 ≤ n) (hcat : zcat S ≤ 8) (hc : Ct M k [.ref o] w (fun r w2 => G np L (zpush r S) w2)) : G pc L (.ref o :: S) w :=
  zr_callU h (As := []) hd hl hs hq hn rfl hcat hc
theorem zr_callP0 (h : zE own cc nL n G) {idx k o ci : Nat} {fl : List (Option Nat)} {q : vw_C} {M : zM} {x : MethodName} (hd : zD cc pc (.invokespecial idx) 3 np) (hl : zLp own idx x M 0) (hs : zshapes[o]? = some (zob ci fl)) (hq : vwCl[ci]? = some q) (hn : k + 1 ≤ n) (hcat : zcat S ≤ 8) (hc : Ct M k [.ref o] w (fun r w2 => G np L (zpush r S) w2)) : G pc L (.ref o :: S) w :=
  zr_callP h (As := []) hd hl hs hq hn rfl hcat hc
theorem zr_callS0 (h : zE own cc nL n G) {idx k : Nat} {M : zM} (hd : zD cc pc (.invokestatic idx) 3 np) (hl : zLs own idx M 0) (hn : k + 1 ≤ n) (hcat : zcat S ≤ 8) (hc : Ct M k [] w (fun r w2 => G np L (zpush r S) w2)) : G pc L (S) w :=
  zr_callS h (As := []) hd hl hn rfl hcat hc
theorem zr_callV1 (h : zE own cc nL n G) {a : Value} {idx k o ci : Nat} {fl : List (Option Nat)} {q : vw_C} {M : zM} (hd : zD cc pc (.invokevirtual idx) 3 np) (hl : zLv own idx M 1) (hs : zshapes[o]? = some (zob ci fl)) (hq : vwCl[ci]? = some q) (hqc : q.1 = M.1.cls) (hn : k + 1 ≤ n) (hcat : zcat S ≤ 8) (hc : Ct M k [.ref o, a] w (fun r w2 => G np L (zpush r S) w2)) : G pc L (a :: .ref o :: S) w :=
  zr_callV h (As := [a]) hd hl hs hq hqc hn rfl hcat hc
theorem zr_callU1 (h : zE own cc nL n G) {a : Value} {idx k o ci : Nat} {fl : List (Option Nat)} {q : vw_C} {M : zM} {x : MethodName} (hd : zD cc pc (.invokevirtual idx) 3 np) (hl : zLu own idx x q.1 M 1) (hs : zshapes[o]? = some (zob ci fl)) (hq : vwCl[ci]? = some q) (hn : k + 1 ≤ n) (hcat : zcat S ≤ 8) (hc : Ct M k [.ref o, a] w (fun r w2 => G np L (zpush r S) w2)) : G pc L (a :: .ref o :: S) w :=
  zr_callU h (As := [a]) hd hl hs hq hn rfl hcat hc
theorem zr_callP1 (h : zE own cc nL n G) {a : Value} {idx k o ci : Nat} {fl : List (Option Nat)} {q : vw_C} {M : zM} {x : MethodName} (hd : zD cc pc (.invokespecial idx) 3 np) (hl : zLp own idx x M 1) (hs : zshapes[o]? = some (zob ci fl)) (hq : vwCl[ci]? = some q) (hn : k + 1 ≤ n) (hcat : zcat S ≤ 8) (hc : Ct M k [.ref o, a] w (fun r w2 => G np L (zpush r S) w2)) : G pc L (a :: .ref o :: S) w :=
  zr_callP h (As := [a]) hd hl hs hq hn rfl hcat hc
theorem zr_callS1 (h : zE own cc nL n G) {a : Value} {idx k : Nat} {M : zM} (hd : zD cc pc (.invokestatic idx) 3 np) (hl : zLs own idx M 1) (hn : k + 1 ≤ n) (hcat : zcat S ≤ 8) (hc : Ct M k [a] w (fun r w2 => G np L (zpush r S) w2)) : G pc L (a :: S) w :=
  zr_callS h (As := [a]) hd hl hn rfl hcat hc
theorem zr_callV2 (h : zE own cc nL n G) {a b : Value} {idx k o ci : Nat} {fl : List (Option Nat)} {q : vw_C} {M : zM} (hd : zD cc pc (.invokevirtual idx) 3 np) (hl : zLv own idx M 2) (hs : zshapes[o]? = some (zob ci fl)) (hq : vwCl[ci]? = some q) (hqc : q.1 = M.1.cls) (hn : k + 1 ≤ n) (hcat : zcat S ≤ 8) (hc : Ct M k [.ref o, a, b] w (fun r w2 => G np L (zpush r S) w2)) : G pc L (b :: a :: .ref o :: S) w :=
  zr_callV h (As := [a, b]) hd hl hs hq hqc hn rfl hcat hc
theorem zr_callU2 (h : zE own cc nL n G) {a b : Value} {idx k o ci : Nat} {fl : List (Option Nat)} {q : vw_C} {M : zM} {x : MethodName} (hd : zD cc pc (.invokevirtual idx) 3 np) (hl : zLu own idx x q.1 M 2) (hs : zshapes[o]? = some (zob ci fl)) (hq : vwCl[ci]? = some q) (hn : k + 1 ≤ n) (hcat : zcat S ≤ 8) (hc : Ct M k [.ref o, a, b] w (fun r w2 => G np L (zpush r S) w2)) : G pc L (b :: a :: .ref o :: S) w :=
  zr_callU h (As := [a, b]) hd hl hs hq hn rfl hcat hc
theorem zr_callP2 (h : zE own cc nL n G) {a b : Value} {idx k o ci : Nat} {fl : List (Option Nat)} {q : vw_C} {M : zM} {x : MethodName} (hd : zD cc pc (.invokespecial idx) 3 np) (hl : zLp own idx x M 2) (hs : zshapes[o]? = some (zob ci fl)) (hq : vwCl[ci]? = some q) (hn : k + 1 ≤ n) (hcat : zcat S ≤ 8) (hc : Ct M k [.ref o, a, b] w (fun r w2 => G np L (zpush r S) w2)) : G pc L (b :: a :: .ref o :: S) w :=
  zr_callP h (As := [a, b]) hd hl hs hq hn rfl hcat hc
theorem zr_callS2 (h : zE own cc nL n G) {a b : Value} {idx k : Nat} {M : zM} (hd : zD cc pc (.invokestatic idx) 3 np) (hl : zLs own idx M 2) (hn : k + 1 ≤ n) (hcat : zcat S ≤ 8) (hc : Ct M k [a, b] w (fun r w2 => G np L (zpush r S) w2)) : G pc L (b :: a :: S) w :=
  zr_callS h (As := [a, b]) hd hl hn rfl hcat hc
theorem zr_callV3 (h : zE own cc nL n G) {a b c : Value} {idx k o ci : Nat} {fl : List (Option Nat)} {q : vw_C} {M : zM} (hd : zD cc pc (.invokevirtual idx) 3 np) (hl : zLv own idx M 3) (hs : zshapes[o]? = some (zob ci fl)) (hq : vwCl[ci]? = some q) (hqc : q.1 = M.1.cls) (hn : k + 1 ≤ n) (hcat : zcat S ≤ 8) (hc : Ct M k [.ref o, a, b, c] w (fun r w2 => G np L (zpush r S) w2)) : G pc L (c :: b :: a :: .ref o :: S) w :=
  zr_callV h (As := [a, b, c]) hd hl hs hq hqc hn rfl hcat hc
theorem zr_callU3 (h : zE own cc nL n G) {a b c : Value} {idx k o ci : Nat} {fl : List (Option Nat)} {q : vw_C} {M : zM} {x : MethodName} (hd : zD cc pc (.invokevirtual idx) 3 np) (hl : zLu own idx x q.1 M 3) (hs : zshapes[o]? = some (zob ci fl)) (hq : vwCl[ci]? = some q) (hn : k + 1 ≤ n) (hcat : zcat S ≤ 8) (hc : Ct M k [.ref o, a, b, c] w (fun r w2 => G np L (zpush r S) w2)) : G pc L (c :: b :: a :: .ref o :: S) w :=
  zr_callU h (As := [a, b, c]) hd hl hs hq hn rfl hcat hc
theorem zr_callP3 (h : zE own cc nL n G) {a b c : Value} {idx k o ci : Nat} {fl : List (Option Nat)} {q : vw_C} {M : zM} {x : MethodName} (hd : zD cc pc (.invokespecial idx) 3 np) (hl : zLp own idx x M 3) (hs : zshapes[o]? = some (zob ci fl)) (hq : vwCl[ci]? = some q) (hn : k + 1 ≤ n) (hcat : zcat S ≤ 8) (hc : Ct M k [.ref o, a, b, c] w (fun r w2 => G np L (zpush r S) w2)) : G pc L (c :: b :: a :: .ref o :: S) w :=
  zr_callP h (As := [a, b, c]) hd hl hs hq hn rfl hcat hc
theorem zr_callS3 (h : zE own cc nL n G) {a b c : Value} {idx k : Nat} {M : zM} (hd : zD cc pc (.invokestatic idx) 3 np) (hl : zLs own idx M 3) (hn : k + 1 ≤ n) (hcat : zcat S ≤ 8) (hc : Ct M k [a, b, c] w (fun r w2 => G np L (zpush r S) w2)) : G pc L (c :: b :: a :: S) w :=
  zr_callS h (As := [a, b, c]) hd hl hn rfl hcat hc
theorem zr_callV4 (h : zE own cc nL n G) {a b c d : Value} {idx k o ci : Nat} {fl : List (Option Nat)} {q : vw_C} {M : zM} (hd : zD cc pc (.invokevirtual idx) 3 np) (hl : zLv own idx M 4) (hs : zshapes[o]? = some (zob ci fl)) (hq : vwCl[ci]? = some q) (hqc : q.1 = M.1.cls) (hn : k + 1 ≤ n) (hcat : zcat S ≤ 8) (hc : Ct M k [.ref o, a, b, c, d] w (fun r w2 => G np L (zpush r S) w2)) : G pc L (d :: c :: b :: a :: .ref o :: S) w :=
  zr_callV h (As := [a, b, c, d]) hd hl hs hq hqc hn rfl hcat hc
theorem zr_callU4 (h : zE own cc nL n G) {a b c d : Value} {idx k o ci : Nat} {fl : List (Option Nat)} {q : vw_C} {M : zM} {x : MethodName} (hd : zD cc pc (.invokevirtual idx) 3 np) (hl : zLu own idx x q.1 M 4) (hs : zshapes[o]? = some (zob ci fl)) (hq : vwCl[ci]? = some q) (hn : k + 1 ≤ n) (hcat : zcat S ≤ 8) (hc : Ct M k [.ref o, a, b, c, d] w (fun r w2 => G np L (zpush r S) w2)) : G pc L (d :: c :: b :: a :: .ref o :: S) w :=
  zr_callU h (As := [a, b, c, d]) hd hl hs hq hn rfl hcat hc
theorem zr_callP4 (h : zE own cc nL n G) {a b c d : Value} {idx k o ci : Nat} {fl : List (Option Nat)} {q : vw_C} {M : zM} {x : MethodName} (hd : zD cc pc (.invokespecial idx) 3 np) (hl : zLp own idx x M 4) (hs : zshapes[o]? = some (zob ci fl)) (hq : vwCl[ci]? = some q) (hn : k + 1 ≤ n) (hcat : zcat S ≤ 8) (hc : Ct M k [.ref o, a, b, c, d] w (fun r w2 => G np L (zpush r S) w2)) : G pc L (d :: c :: b :: a :: .ref o :: S) w :=
  zr_callP h (As := [a, b, c, d]) hd hl hs hq hn rfl hcat hc
theorem zr_callS4 (h : zE own cc nL n G) {a b c d : Value} {idx k : Nat} {M : zM} (hd : zD cc pc (.invokestatic idx) 3 np) (hl : zLs own idx M 4) (hn : k + 1 ≤ n) (hcat : zcat S ≤ 8) (hc : Ct M k [a, b, c, d] w (fun r w2 => G np L (zpush r S) w2)) : G pc L (d :: c :: b :: a :: S) w :=
  zr_callS h (As := [a, b, c, d]) hd hl hn rfl hcat hc
theorem zr_callV5 (h : zE own cc nL n G) {a b c d f : Value} {idx k o ci : Nat} {fl : List (Option Nat)} {q : vw_C} {M : zM} (hd : zD cc pc (.invokevirtual idx) 3 np) (hl : zLv own idx M 5) (hs : zshapes[o]? = some (zob ci fl)) (hq : vwCl[ci]? = some q) (hqc : q.1 = M.1.cls) (hn : k + 1 ≤ n) (hcat : zcat S ≤ 8) (hc : Ct M k [.ref o, a, b, c, d, f] w (fun r w2 => G np L (zpush r S) w2)) : G pc L (f :: d :: c :: b :: a :: .ref o :: S) w :=
  zr_callV h (As := [a, b, c, d, f]) hd hl hs hq hqc hn rfl hcat hc
theorem zr_callU5 (h : zE own cc nL n G) {a b c d f : Value} {idx k o ci : Nat} {fl : List (Option Nat)} {q : vw_C} {M : zM} {x : MethodName} (hd : zD cc pc (.invokevirtual idx) 3 np) (hl : zLu own idx x q.1 M 5) (hs : zshapes[o]? = some (zob ci fl)) (hq : vwCl[ci]? = some q) (hn : k + 1 ≤ n) (hcat : zcat S ≤ 8) (hc : Ct M k [.ref o, a, b, c, d, f] w (fun r w2 => G np L (zpush r S) w2)) : G pc L (f :: d :: c :: b :: a :: .ref o :: S) w :=
  zr_callU h (As := [a, b, c, d, f]) hd hl hs hq hn rfl hcat hc
theorem zr_callP5 (h : zE own cc nL n G) {a b c d f : Value} {idx k o ci : Nat} {fl : List (Option Nat)} {q : vw_C} {M : zM} {x : MethodName} (hd : zD cc pc (.invokespecial idx) 3 np) (hl : zLp own idx x M 5) (hs : zshapes[o]? = some (zob ci fl)) (hq : vwCl[ci]? = some q) (hn : k + 1 ≤ n) (hcat : zcat S ≤ 8) (hc : Ct M k [.ref o, a, b, c, d, f] w (fun r w2 => G np L (zpush r S) w2)) : G pc L (f :: d :: c :: b :: a :: .ref o :: S) w :=
  zr_callP h (As := [a, b, c, d, f]) hd hl hs hq hn rfl hcat hc
theorem zr_callS5 (h : zE own cc nL n G) {a b c d f : Value} {idx k : Nat} {M : zM} (hd : zD cc pc (.invokestatic idx) 3 np) (hl : zLs own idx M 5) (hn : k + 1 ≤ n) (hcat : zcat S ≤ 8) (hc : Ct M k [a, b, c, d, f] w (fun r w2 => G np L (zpush r S) w2)) : G pc L (f :: d :: c :: b :: a :: S) w :=
  zr_callS h (As := [a, b, c, d, f]) hd hl hn rfl hcat hc
theorem zr_callV6 (h : zE own cc nL n G) {a b c d f g : Value} {idx k o ci : Nat} {fl : List (Option Nat)} {q : vw_C} {M : zM} (hd : zD cc pc (.invokevirtual idx) 3 np) (hl : zLv own idx M 6) (hs : zshapes[o]? = some (zob ci fl)) (hq : vwCl[ci]? = some q) (hqc : q.1 = M.1.cls) (hn : k + 1 ≤ n) (hcat : zcat S ≤ 8) (hc : Ct M k [.ref o, a, b, c, d, f, g] w (fun r w2 => G np L (zpush r S) w2)) : G pc L (g :: f :: d :: c :: b :: a :: .ref o :: S) w :=
  zr_callV h (As := [a, b, c, d, f, g]) hd hl hs hq hqc hn rfl hcat hc
theorem zr_callU6 (h : zE own cc nL n G) {a b c d f g : Value} {idx k o ci : Nat} {fl : List (Option Nat)} {q : vw_C} {M : zM} {x : MethodName} (hd : zD cc pc (.invokevirtual idx) 3 np) (hl : zLu own idx x q.1 M 6) (hs : zshapes[o]? = some (zob ci fl)) (hq : vwCl[ci]? = some q) (hn : k + 1 ≤ n) (hcat : zcat S ≤ 8) (hc : Ct M k [.ref o, a, b, c, d, f, g] w (fun r w2 => G np L (zpush r S) w2)) : G pc L (g :: f :: d :: c :: b :: a :: .ref o :: S) w :=
  zr_callU h (As := [a, b, c, d, f, g]) hd hl hs hq hn rfl hcat hc
theorem zr_callP6 (h : zE own cc nL n G) {a b c d f g : Value} {idx k o ci : Nat} {fl : List (Option Nat)} {q : vw_C} {M : zM} {x : MethodName} (hd : zD cc pc (.invokespecial idx) 3 np) (hl : zLp own idx x M 6) (hs : zshapes[o]? = some (zob ci fl)) (hq : vwCl[ci]? = some q) (hn : k + 1 ≤ n) (hcat : zcat S ≤ 8) (hc : Ct M k [.ref o, a, b, c, d, f, g] w (fun r w2 => G np L (zpush r S) w2)) : G pc L (g :: f :: d :: c :: b :: a :: .ref o :: S) w :=
  zr_callP h (As := [a, b, c, d, f, g]) hd hl hs hq hn rfl hcat hc
theorem zr_callS6 (h : zE own cc nL n G) {a b c d f g : Value} {idx k : Nat} {M : zM} (hd : zD cc pc (.invokestatic idx) 3 np) (hl : zLs own idx M 6) (hn : k + 1 ≤ n) (hcat : zcat S ≤ 8) (hc : Ct M k [a, b, c, d, f, g] w (fun r w2 => G np L (zpush r S) w2)) : G pc L (g :: f :: d :: c :: b :: a :: S) w :=
  zr_callS h (As := [a, b, c, d, f, g]) hd hl hn rfl hcat hc
theorem zr_kif_lt (h : zE own cc nL n G) {off : Int} (hd : zD cc pc (.ifCond .lt off) 3 np) {tgt : Nat} {x : Int32} (ht : (pc : Int) + off = (tgt : Int)) (kt : ¬ 0 ≤ x → x < 0 → G tgt L S w) (kf : 0 ≤ x → ¬ x < 0 → G np L S w) : G pc L (.int x :: S) w := zr_if_lt h hd ht (fun q => kt (Int32.not_le.mpr q) q) (fun q => kf (Int32.not_lt.mp q) q)
theorem zr_kicmp_lt (h : zE own cc nL n G) {off : Int} (hd : zD cc pc (.if_icmp .lt off) 3 np) {tgt : Nat} {x y : Int32} (ht : (pc : Int) + off = (tgt : Int)) (kt : ¬ y ≤ x → x < y → G tgt L S w) (kf : y ≤ x → ¬ x < y → G np L S w) : G pc L (.int y :: .int x :: S) w := zr_icmp_lt h hd ht (fun q => kt (Int32.not_le.mpr q) q) (fun q => kf (Int32.not_lt.mp q) q)
theorem zr_kif_ge (h : zE own cc nL n G) {off : Int} (hd : zD cc pc (.ifCond .ge off) 3 np) {tgt : Nat} {x : Int32} (ht : (pc : Int) + off = (tgt : Int)) (kt : ¬ x < 0 → 0 ≤ x → G tgt L S w) (kf : x < 0 → ¬ 0 ≤ x → G np L S w) : G pc L (.int x :: S) w := zr_if_ge h hd ht (fun q => kt (Int32.not_lt.mpr q) q) (fun q => kf (Int32.not_le.mp q) q)
theorem zr_kicmp_ge (h : zE own cc nL n G) {off : Int} (hd : zD cc pc (.if_icmp .ge off) 3 np) {tgt : Nat} {x y : Int32} (ht : (pc : Int) + off = (tgt : Int)) (kt : ¬ x < y → y ≤ x → G tgt L S w) (kf : x < y → ¬ y ≤ x → G np L S w) : G pc L (.int y :: .int x :: S) w := zr_icmp_ge h hd ht (fun q => kt (Int32.not_lt.mpr q) q) (fun q => kf (Int32.not_le.mp q) q)
theorem zr_kif_gt (h : zE own cc nL n G) {off : Int} (hd : zD cc pc (.ifCond .gt off) 3 np) {tgt : Nat} {x : Int32} (ht : (pc : Int) + off = (tgt : Int)) (kt : ¬ x ≤ 0 → 0 < x → G tgt L S w) (kf : x ≤ 0 → ¬ 0 < x → G np L S w) : G pc L (.int x :: S) w := zr_if_gt h hd ht (fun q => kt (Int32.not_le.mpr q) q) (fun q => kf (Int32.not_lt.mp q) q)
theorem zr_kicmp_gt (h : zE own cc nL n G) {off : Int} (hd : zD cc pc (.if_icmp .gt off) 3 np) {tgt : Nat} {x y : Int32} (ht : (pc : Int) + off = (tgt : Int)) (kt : ¬ x ≤ y → y < x → G tgt L S w) (kf : x ≤ y → ¬ y < x → G np L S w) : G pc L (.int y :: .int x :: S) w := zr_icmp_gt h hd ht (fun q => kt (Int32.not_le.mpr q) q) (fun q => kf (Int32.not_lt.mp q) q)
theorem zr_kif_le (h : zE own cc nL n G) {off : Int} (hd : zD cc pc (.ifCond .le off) 3 np) {tgt : Nat} {x : Int32} (ht : (pc : Int) + off = (tgt : Int)) (kt : ¬ 0 < x → x ≤ 0 → G tgt L S w) (kf : 0 < x → ¬ x ≤ 0 → G np L S w) : G pc L (.int x :: S) w := zr_if_le h hd ht (fun q => kt (Int32.not_lt.mpr q) q) (fun q => kf (Int32.not_le.mp q) q)
theorem zr_kicmp_le (h : zE own cc nL n G) {off : Int} (hd : zD cc pc (.if_icmp .le off) 3 np) {tgt : Nat} {x y : Int32} (ht : (pc : Int) + off = (tgt : Int)) (kt : ¬ y < x → x ≤ y → G tgt L S w) (kf : y < x → ¬ x ≤ y → G np L S w) : G pc L (.int y :: .int x :: S) w := zr_icmp_le h hd ht (fun q => kt (Int32.not_lt.mpr q) q) (fun q => kf (Int32.not_le.mp q) q)
end ZBase
theorem zq {Q : Option Value → ww → Prop} {a b : Int32} {w : ww} (h : Q (some (.int a)) w) (e : a = b) : Q (some (.int b)) w := e ▸ h
theorem zqw {Q : Option Value → ww → Prop} {a b : Int32} {w u : ww} (h : Q (some (.int a)) w) (e : a = b) (f : w = u) : Q (some (.int b)) u := e ▸ f ▸ h
theorem zqv {Q : Option Value → ww → Prop} {w u : ww} (h : Q none w) (f : w = u) : Q none u := f ▸ h
