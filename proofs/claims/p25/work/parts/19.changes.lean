
/-- the rows that asking leaves alone: all but the group's -/
def zob_ (r _j : Nat) : Prop := r ≠ 12 ∧ r ≠ 14
def zKo (V V' : Nat → Nat → Int32) : Prop := ∀ r j, zob_ r j → V' r j = V r j
theorem zKo.rf {V : Nat → Nat → Int32} : zKo V V := fun _ _ _ => rfl
theorem zKo.tr {V V1 V2 : Nat → Nat → Int32} (h1 : zKo V V1) (h2 : zKo V1 V2) : zKo V V2 := fun r j h => (h2 r j h).trans (h1 r j h)
theorem zKo.set {V : Nat → Nat → Int32} {r : Nat} {v : Nat → Int32} (h : ∀ j, zob_ r j → v j = V r j) : zKo V (rset V r v) := fun q j hq => by
  by_cases e : q = r
  · subst e; rw [rset_s]; exact h j hq
  · rw [rset_n e]
theorem zKo.off {V : Nat → Nat → Int32} {r : Nat} {v : Nat → Int32} (h : r = 12 ∨ r = 14) : zKo V (rset V r v) := zKo.set fun j hj => by unfold zob_ at hj; omega
/-- the world has changed, but for that; R: what is answered -/
def zTu (d : zD) (A : Nat → Nat) (nk ns : Nat) (V : Nat → Nat → Int32) (G : zG) (R : Option Value → Prop) : Option Value → zG → Prop := fun r G1 => R r ∧ ∃ D' V', zT d A D' V' nk ns G1 ∧ zKo V V' ∧ tFr A nk ns G G1
def zrN : Option Value → Prop := fun r => r = none
def zrI : Option Value → Prop := fun r => ∃ v : Int32, r = some (.int v)
def zrB : Option Value → Prop := fun r => ∃ b : Bool, r = some (.int (zb b))
def zrL : Option Value → Prop := fun r => ∃ v : Int64, r = some (.long v)
/-- a double's size -/
def zmg (a : UInt64) (K : Nat) : Prop := a.toNat % 2 ^ 63 < K * 2 ^ 52
theorem zmg.mono {a : UInt64} {K K' : Nat} (h : zmg a K) (hk : K ≤ K') : zmg a K' := Nat.lt_of_lt_of_le h (Nat.mul_le_mul_right _ hk)
theorem zmg.nn {a : UInt64} {K : Nat} (h : zmg a K) (hk : K ≤ 2047) : vf_n64 a := by
  unfold zmg at h
  show a &&& 9223372036854775807 ≤ 9218868437227405312
  rw [UInt64.le_iff_toNat_le, UInt64.toNat_and, show (9223372036854775807 : UInt64).toNat = 2 ^ 63 - 1 from rfl, Nat.and_two_pow_sub_one_eq_mod, show (9218868437227405312 : UInt64).toNat = 2047 * 2 ^ 52 from rfl]
  omega
theorem zmg_0 : zmg 0 1024 := by unfold zmg; decide
theorem zmg_1 : zmg 4607182418800017408 1024 := by unfold zmg; decide
theorem zmg_i (x : Int32) : zmg (FP.i2d x) 1055 := by
  have h1 : (FP.i2d x).toNat = FP.Core.fromInt FP.Core.b64 x.toInt := FP.Core.toNat_of64 (FP.Core.round_fits FP.Core.good_b64 _)
  have hb := x.le_toInt
  have hb2 := x.toInt_lt
  have := FP.Core.fromInt_mag h1 (j := 31) (K := 1054) (by omega) (by decide) (by decide)
  exact Nat.lt_of_le_of_lt this (by decide)
theorem zmg_m {a b : UInt64} {K : Nat} (h : zmg a K) (hb : zmg b 1055) (h1 : 1024 ≤ K) (h2 : K ≤ 2000) : zmg (FP.dmul a b) (K + 33) := by
  have := FP.Core.dmul_mag h hb (by omega) (by decide)
  rw [show K + 1055 - 1025 + 3 = K + 33 by omega] at this
  exact this
theorem zmg_d {a : UInt64} {K : Nat} (h : zmg a K) (h1 : 1024 ≤ K) (h2 : K ≤ 2000) : zmg (FP.ddiv a 4636737291354636288) K := by
  have := FP.Core.ddiv_mag h (b := 4636737291354636288) (L := 1029) (by decide) (by decide) (by omega) (by decide)
  exact Nat.lt_of_lt_of_le this (Nat.mul_le_mul_right _ (by omega))
theorem zmg_a {a b : UInt64} {K : Nat} (h : zmg a K) (hb : zmg b K) (h2 : K ≤ 2047) : zmg (FP.dadd a b) (K + 2) := FP.Core.dadd_mag h hb h2
theorem vu_s {f : Nat → UInt64} {k : Nat} {v : UInt64} : vf_upd f k v k = v := if_pos rfl
theorem vu_n {f : Nat → UInt64} {k q : Nat} {v : UInt64} (h : q ≠ k) : vf_upd f k v q = f q := if_neg h
section ZTW
variable {d : zD} {A : Nat → Nat} {D : Nat → UInt64} {V : Nat → Nat → Int32} {nk ns : Nat} {G G1 : zG}
theorem tcell_D {r : Nat} (h : r ≠ 15) (D' : Nat → UInt64) (v : Nat → Int32) : tcell d A D' nk ns r v = tcell d A D nk ns r v := by
  unfold tcell
  split
  · split <;> first | rfl | contradiction
  · rfl
theorem zT.putD (h : zT d A D V nk ns G) (D' : Nat → UInt64) : zT d A D' V nk ns (zu G (A 15) (zDb d 9 D')) := by
  refine ⟨⟨h.1.1, fun q hq => ?_⟩, h.2⟩
  by_cases e : q = 15
  · subst e
    rw [zu_s]; rfl
  · rw [zu_n (fun z => e (h.1.1 q 15 hq (tlive_s (by decide) (by decide) (by decide)) z)), tcell_D e D']
    exact h.1.2 q hq
theorem zT.gA (h : zT d A D V nk ns G) : zGr d (A 12) (A 13) (A 14) (V 13) (V 14) (V 12 0) (V 12 1) (V 12 2) (V 12 3) G := ⟨h.gr, h.gi, h.gg, fun e => by have := h.1.1 13 14 (tlive_s (by decide) (by decide) (by decide)) (tlive_s (by decide) (by decide) (by decide)) e; omega⟩
theorem zT.ne (h : zT d A D V nk ns G) {r q : Nat} (hr : tlive nk ns r) (hq : tlive nk ns q) (hn : r ≠ q) : A r ≠ A q := fun e => hn (h.1.1 r q hr hq e)
theorem tl_s (r : Nat) (h : r < 16 := by decide) (h2 : r ≠ 2 := by decide) (h4 : r ≠ 4 := by decide) : tlive nk ns r := tlive_s h h2 h4
theorem zT.rA (h : zT d A D V nk ns G) : zRe d (A 5) (A 6) (A 7) (A 8) (A 9) (V 6) (V 7) (V 8) (V 9) (V 5 0) G :=
  ⟨h.re, h.1.2 6 (tl_s 6), h.1.2 7 (tl_s 7), h.1.2 8 (tl_s 8), h.1.2 9 (tl_s 9), h.ne (tl_s 6) (tl_s 7) (by decide), h.ne (tl_s 6) (tl_s 8) (by decide), h.ne (tl_s 6) (tl_s 9) (by decide), h.ne (tl_s 7) (tl_s 8) (by decide), h.ne (tl_s 7) (tl_s 9) (by decide), h.ne (tl_s 8) (tl_s 9) (by decide)⟩
theorem zT.kn (h : zT d A D V nk ns G) {k : Nat} (hk : k < nk) : V (100 + k) 0 = nI k := h.2.2.2.2.2.2 k hk
theorem zT.tn (h : zT d A D V nk ns G) {i : Nat} (hi : i < ns) : ∃ t, 1 ≤ t ∧ t ≤ 4 ∧ V (200 + i) 0 = nI t := h.2.2.2.2.2.1 i hi
theorem tInv.grp {v : Nat → Int32} (h : tInv V nk ns) (hv : ∃ q, q < 512 ∧ v 1 = nI q) : tInv (rset V 12 v) nk ns := by
  obtain ⟨a, b, c, e, f, g⟩ := h
  refine ⟨a, b, by rw [rset_s]; exact hv, by rw [rset_n (by decide)]; exact e, fun i hi => ?_, fun k hk => ?_⟩
  · rw [rset_n (by omega)]; exact f i hi
  · rw [rset_n (by omega)]; exact g k hk
/-- the group's head is written -/
theorem zT.putg (h : zT d A D V nk ns G) (o b a : Int32) {p : Int32} (hp : ∃ q, q < 512 ∧ p = nI q) : ∃ V', zT d A D V' nk ns (zu G (A 12) (zgh (A 13) (A 14) o p b a)) ∧ zKo V V' ∧ tFr A nk ns G (zu G (A 12) (zgh (A 13) (A 14) o p b a)) :=
  ⟨_, h.put (tl_s 12) (fun j => match j with | 0 => o | 1 => p | 2 => b | _ => a) rfl rfl (h.2.grp hp), zKo.off (by decide), zT.frput (tl_s 12) rfl⟩
theorem zT.putgg (h : zT d A D V nk ns G) (v : Nat → Int32) : ∃ V', zT d A D V' nk ns (zu G (A 14) (zI d 9 v)) ∧ zKo V V' ∧ tFr A nk ns G (zu G (A 14) (zI d 9 v)) ∧ V' 12 = V 12 :=
  ⟨_, h.put (tl_s 14) v rfl rfl (h.2.off (by decide) (by decide) (by decide)), zKo.off (by decide), zT.frput (tl_s 14) rfl, rset_n (by decide)⟩
theorem zor_lt : ∀ q, q < 512 → ∀ k, k < 9 → nI q ||| (1 <<< (nI k &&& 31)) = nI (q ||| 1 <<< k) ∧ q ||| 1 <<< k < 512 := by decide +kernel
theorem zT.give (h : zT d A D V nk ns G) {k : Nat} (hk : k < 9) (x : Int32) : ∃ V', zT d A D V' nk ns (zu (zu G (A 14) (zI d 9 (upd (V 14) k (zfm x)))) (A 12) (zgh (A 13) (A 14) (V 12 0) (V 12 1 ||| (1 <<< (nI k &&& 31))) (V 12 2) (V 12 3))) ∧ zKo V V' ∧ tFr A nk ns G (zu (zu G (A 14) (zI d 9 (upd (V 14) k (zfm x)))) (A 12) (zgh (A 13) (A 14) (V 12 0) (V 12 1 ||| (1 <<< (nI k &&& 31))) (V 12 2) (V 12 3))) := by
  obtain ⟨V1, h1, k1, f1, -⟩ := h.putgg (upd (V 14) k (zfm x))
  obtain ⟨q, hq, e⟩ := h.2.2.2.1
  obtain ⟨V2, h2, k2, f2⟩ := h1.putg (V 12 0) (V 12 2) (V 12 3) (p := V 12 1 ||| (1 <<< (nI k &&& 31))) ⟨_, (zor_lt q hq k hk).2, by rw [e]; exact (zor_lt q hq k hk).1⟩
  exact ⟨V2, h2, k1.tr k2, f1.tr f2⟩
end ZTW


section ZDN
variable {g0 : State} {d : zD} {y : MethodName} {cc : ByteArray} {nL : Nat} {ret : Option FieldType} {tb : List ExceptionTableEntry} {p : Program} {l : Launch} {e : Env} {R : Room} {s : State} {m : MethodId} {args : Array Value} {below : List Frame} {meth : Method} {c : Code} {Q : State → Prop} {cells slots : Nat} {G : zG} {L : List (Nat × Value)} {st : List Value} {pc : Nat}
theorem z_lookup {dflt : Int} {ps : Array (Int × Int)} {len : Nat} {x : Int32} {off : Int} (tgt : Nat) (hd : decode cc pc = .ok (.lookupswitch dflt ps, len)) (hp : (ps.toList.zip (ps.toList.drop 1)).all (fun (a, next) => a.1 < next.1) = true) (ho : Op.lookupswitch.offset ps.toList dflt x.toInt = off) (ht : (pc : Int) + off = (tgt : Int)) (k : Z g0 d y cc nL ret tb p l e R s m args below meth c Q cells slots G L st tgt) : Z g0 d y cc nL ret tb p l e R s m args below meth c Q cells slots G L (.int x :: st) pc :=
  fun hc H locs ls hP hS hl => lv_lookup hc.x hc.b hd hp ho ht (k hc H locs ls hP hS hl)
theorem z_daldN {a n j : Nat} {f : Nat → UInt64} (hG : G a = some (zDb d n f)) (hj : j < n) (hn : n < 2 ^ 31) (hd : decode cc pc = .ok (.daload, 1)) (k : Z g0 d y cc nL ret tb p l e R s m args below meth c Q cells slots G L (.double (f j) :: st) (pc + 1)) : Z g0 d y cc nL ret tb p l e R s m args below meth c Q cells slots G L (.int (nI j) :: .ref a :: st) pc := z_dald hG (vp_in_nI hj hn) hd (by rw [nI_clamp (by omega)]; exact k)
theorem z_dastN {a n j : Nat} {f : Nat → UInt64} {x : UInt64} (hG : G a = some (zDb d n f)) (hj : j < n) (hn : n < 2 ^ 31) (hd : decode cc pc = .ok (.dastore, 1)) (k : Z g0 d y cc nL ret tb p l e R s m args below meth c Q cells slots (zu G a (zDb d n (vf_upd f j x))) L st (pc + 1)) : Z g0 d y cc nL ret tb p l e R s m args below meth c Q cells slots G L (.double x :: .int (nI j) :: .ref a :: st) pc := z_dast hG (vp_in_nI hj hn) hd (by rw [nI_clamp (by omega)]; exact k)
end ZDN
theorem nI_s1 {n : Nat} (h : 1 ≤ n) (h2 : n < 2 ^ 31) : nI n - 1 = nI (n - 1) := by
  rw [← Int32.toInt_inj, Int32.toInt_sub, nI_toInt h2, nI_toInt (by omega), show (1 : Int32).toInt = 1 from rfl]
  exact (Int.bmod_eq_of_le (by omega) (by omega)).trans (by omega)

theorem d_Tb_riskOne_0 : decode c_Tb_riskOne 0 = .ok (.aload_n 0, 1) := by decide +kernel
theorem d_Tb_riskOne_1 : decode c_Tb_riskOne 1 = .ok (.getfield 40, 3) := by decide +kernel
theorem d_Tb_riskOne_4 : decode c_Tb_riskOne 4 = .ok (.arraylength, 1) := by decide +kernel
theorem d_Tb_riskOne_5 : decode c_Tb_riskOne 5 = .ok (.iconst 1, 1) := by decide +kernel
theorem d_Tb_riskOne_6 : decode c_Tb_riskOne 6 = .ok (.isub, 1) := by decide +kernel
theorem d_Tb_riskOne_7 : decode c_Tb_riskOne 7 = .ok (.istore_n 2, 1) := by decide +kernel
theorem d_Tb_riskOne_8 : decode c_Tb_riskOne 8 = .ok (.iload_n 2, 1) := by decide +kernel
theorem d_Tb_riskOne_9 : decode c_Tb_riskOne 9 = .ok (.iconst 1, 1) := by decide +kernel
theorem d_Tb_riskOne_10 : decode c_Tb_riskOne 10 = .ok (.if_icmp .lt 47, 3) := by decide +kernel
theorem d_Tb_riskOne_13 : decode c_Tb_riskOne 13 = .ok (.aload_n 0, 1) := by decide +kernel
theorem d_Tb_riskOne_14 : decode c_Tb_riskOne 14 = .ok (.getfield 40, 3) := by decide +kernel
theorem d_Tb_riskOne_17 : decode c_Tb_riskOne 17 = .ok (.iload_n 2, 1) := by decide +kernel
theorem d_Tb_riskOne_18 : decode c_Tb_riskOne 18 = .ok (.aload_n 0, 1) := by decide +kernel
theorem d_Tb_riskOne_19 : decode c_Tb_riskOne 19 = .ok (.getfield 40, 3) := by decide +kernel
theorem d_Tb_riskOne_22 : decode c_Tb_riskOne 22 = .ok (.iload_n 2, 1) := by decide +kernel
theorem d_Tb_riskOne_23 : decode c_Tb_riskOne 23 = .ok (.daload, 1) := by decide +kernel
theorem d_Tb_riskOne_24 : decode c_Tb_riskOne 24 = .ok (.iload_n 1, 1) := by decide +kernel
theorem d_Tb_riskOne_25 : decode c_Tb_riskOne 25 = .ok (.i2d, 1) := by decide +kernel
theorem d_Tb_riskOne_26 : decode c_Tb_riskOne 26 = .ok (.dmul, 1) := by decide +kernel
theorem d_Tb_riskOne_27 : decode c_Tb_riskOne 27 = .ok (.ldc2_w 381, 3) := by decide +kernel
theorem d_Tb_riskOne_30 : decode c_Tb_riskOne 30 = .ok (.ddiv, 1) := by decide +kernel
theorem d_Tb_riskOne_31 : decode c_Tb_riskOne 31 = .ok (.aload_n 0, 1) := by decide +kernel
theorem d_Tb_riskOne_32 : decode c_Tb_riskOne 32 = .ok (.getfield 40, 3) := by decide +kernel
theorem d_Tb_riskOne_35 : decode c_Tb_riskOne 35 = .ok (.iload_n 2, 1) := by decide +kernel
theorem d_Tb_riskOne_36 : decode c_Tb_riskOne 36 = .ok (.iconst 1, 1) := by decide +kernel
theorem d_Tb_riskOne_37 : decode c_Tb_riskOne 37 = .ok (.isub, 1) := by decide +kernel
theorem d_Tb_riskOne_38 : decode c_Tb_riskOne 38 = .ok (.daload, 1) := by decide +kernel
theorem d_Tb_riskOne_39 : decode c_Tb_riskOne 39 = .ok (.bipush 100, 2) := by decide +kernel
theorem d_Tb_riskOne_41 : decode c_Tb_riskOne 41 = .ok (.iload_n 1, 1) := by decide +kernel
theorem d_Tb_riskOne_42 : decode c_Tb_riskOne 42 = .ok (.isub, 1) := by decide +kernel
theorem d_Tb_riskOne_43 : decode c_Tb_riskOne 43 = .ok (.i2d, 1) := by decide +kernel
theorem d_Tb_riskOne_44 : decode c_Tb_riskOne 44 = .ok (.dmul, 1) := by decide +kernel
theorem d_Tb_riskOne_45 : decode c_Tb_riskOne 45 = .ok (.ldc2_w 381, 3) := by decide +kernel
theorem d_Tb_riskOne_48 : decode c_Tb_riskOne 48 = .ok (.ddiv, 1) := by decide +kernel
theorem d_Tb_riskOne_49 : decode c_Tb_riskOne 49 = .ok (.dadd, 1) := by decide +kernel
theorem d_Tb_riskOne_50 : decode c_Tb_riskOne 50 = .ok (.dastore, 1) := by decide +kernel
theorem d_Tb_riskOne_51 : decode c_Tb_riskOne 51 = .ok (.iinc 2 (-1), 3) := by decide +kernel
theorem d_Tb_riskOne_54 : decode c_Tb_riskOne 54 = .ok (.goto (-46), 3) := by decide +kernel
theorem d_Tb_riskOne_57 : decode c_Tb_riskOne 57 = .ok (.aload_n 0, 1) := by decide +kernel
theorem d_Tb_riskOne_58 : decode c_Tb_riskOne 58 = .ok (.getfield 40, 3) := by decide +kernel
theorem d_Tb_riskOne_61 : decode c_Tb_riskOne 61 = .ok (.arraylength, 1) := by decide +kernel
theorem d_Tb_riskOne_62 : decode c_Tb_riskOne 62 = .ok (.ifCond .le 22, 3) := by decide +kernel
theorem d_Tb_riskOne_65 : decode c_Tb_riskOne 65 = .ok (.aload_n 0, 1) := by decide +kernel
theorem d_Tb_riskOne_66 : decode c_Tb_riskOne 66 = .ok (.getfield 40, 3) := by decide +kernel
theorem d_Tb_riskOne_69 : decode c_Tb_riskOne 69 = .ok (.iconst 0, 1) := by decide +kernel
theorem d_Tb_riskOne_70 : decode c_Tb_riskOne 70 = .ok (.aload_n 0, 1) := by decide +kernel
theorem d_Tb_riskOne_71 : decode c_Tb_riskOne 71 = .ok (.getfield 40, 3) := by decide +kernel
theorem d_Tb_riskOne_74 : decode c_Tb_riskOne 74 = .ok (.iconst 0, 1) := by decide +kernel
theorem d_Tb_riskOne_75 : decode c_Tb_riskOne 75 = .ok (.daload, 1) := by decide +kernel
theorem d_Tb_riskOne_76 : decode c_Tb_riskOne 76 = .ok (.iload_n 1, 1) := by decide +kernel
theorem d_Tb_riskOne_77 : decode c_Tb_riskOne 77 = .ok (.i2d, 1) := by decide +kernel
theorem d_Tb_riskOne_78 : decode c_Tb_riskOne 78 = .ok (.dmul, 1) := by decide +kernel
theorem d_Tb_riskOne_79 : decode c_Tb_riskOne 79 = .ok (.ldc2_w 381, 3) := by decide +kernel
theorem d_Tb_riskOne_82 : decode c_Tb_riskOne 82 = .ok (.ddiv, 1) := by decide +kernel
theorem d_Tb_riskOne_83 : decode c_Tb_riskOne 83 = .ok (.dastore, 1) := by decide +kernel
theorem d_Tb_riskOne_84 : decode c_Tb_riskOne 84 = .ok (.return_, 1) := by decide +kernel
set_option maxHeartbeats 4000000 in
set_option maxRecDepth 100000 in
theorem m_Tb_riskOne {g0 : State} {d : zD} {l : Launch} {a0 : Array Value} (hs0 : zS0 d a0 g0) (hst : l.stackTraces = false) {G : zG} {A : Nat → Nat} {D : Nat → UInt64} {V : Nat → Nat → Int32} {nk ns : Nat} (hT : zT d A D V nk ns G) (x : Int32) {K : Nat} (hK : 1024 ≤ K) (hK2 : K ≤ 1700) (hD : ∀ j, j < 9 → zmg (D j) K) : zMet g0 d l y_Tb_riskOne c_Tb_riskOne 3 ((Option.none : Option Jvm.ClassFile.FieldType)) 1 0 0 [.ref (A 0), .int x] (G) (fun r G1 => r = none ∧ ∃ D', zT d A D' V nk ns G1 ∧ (∀ j, j < 9 → zmg (D' j) (K + 35)) ∧ tFr A nk ns G G1) (zNo) := by
  have hG_Tb := hT.tb
  have hnk : nk ≤ 8 := hT.2.1
  have hns : ns ≤ 6 := hT.2.2.1
  refine z_entry hs0 hst (by decide) (Nat.le_of_ble_eq_true rfl) (fun p e s m args below meth c => ?_)
  refine z_aload_n 0 d_Tb_riskOne_0 rfl rfl ?_
  refine z_get zc_Tb 5 (by decide) qF_Tb_40 hT.tb rfl d_Tb_riskOne_1 ?_
  refine z_alenD hT.ch d_Tb_riskOne_4 ?_
  refine z_iconst (v := 1) d_Tb_riskOne_5 (by decide) ?_
  refine z_isub d_Tb_riskOne_6 ?_
  refine z_topv (v := nI 8) (by decide) ?_
  refine z_istore_n (L' := [(2, _), (0, _), (1, _)]) d_Tb_riskOne_7 rfl (by decide) rfl ?_
  have key_8 : ∀ (n : Nat) (i : Nat) (G2 : zG) (D2 : Nat → UInt64), i < n → (i ≤ 8) → (zT d A D2 V nk ns G2) → (tFr A nk ns G G2) → (∀ j, j < 9 → zmg (D2 j) (K + 35)) → (∀ j, j ≤ i → zmg (D2 j) K) → Z g0 d y_Tb_riskOne c_Tb_riskOne 3 ((Option.none : Option Jvm.ClassFile.FieldType)) [] p l e (zR 1 0 0) s m args below meth c (vx_MQ below (zQc g0 d (fun r G1 => r = none ∧ ∃ D', zT d A D' V nk ns G1 ∧ (∀ j, j < 9 → zmg (D' j) (K + 35)) ∧ tFr A nk ns G G1)) (zXc g0 d (zNo)) args s 0 0 (zA g0)) 0 0 (G2) [(2, .int (nI i)), (0, .ref (A 0)), (1, .int x)] [] 8 := by
    intro n
    induction n with
    | zero => intro i G2 D2 h0; exact absurd h0 (Nat.not_lt_zero _)
    | succ n ih_8 =>
      intro i G2 D2 hm_8 hi hT2 hF2 hm1 hm2
      refine z_iload_n 0 d_Tb_riskOne_8 rfl rfl ?_
      refine z_iconst (v := 1) d_Tb_riskOne_9 (by decide) ?_
      refine z_icmp_lt 57 d_Tb_riskOne_10 (by decide) (fun c_10 => ?_) (fun c_10 => ?_)
      · skip
        have m0 := zmg_m (hm2 0 (by omega)) (zmg_i x) (by omega) (by omega)
        have v0 := zmg_d m0 (by omega) (by omega)
        refine z_aload_n 1 d_Tb_riskOne_57 rfl rfl ?_
        refine z_get zc_Tb 5 (by decide) qF_Tb_40 hT2.tb rfl d_Tb_riskOne_58 ?_
        refine z_alenD hT2.ch d_Tb_riskOne_61 ?_
        refine z_if_le 84 d_Tb_riskOne_62 (by decide) (fun c_62 => absurd c_62 (by decide)) (fun c_62 => ?_)
        refine z_aload_n 1 d_Tb_riskOne_65 rfl rfl ?_
        refine z_get zc_Tb 5 (by decide) qF_Tb_40 hT2.tb rfl d_Tb_riskOne_66 ?_
        refine z_iconst (v := (nI 0)) d_Tb_riskOne_69 (by decide) ?_
        refine z_aload_n 1 d_Tb_riskOne_70 rfl rfl ?_
        refine z_get zc_Tb 5 (by decide) qF_Tb_40 hT2.tb rfl d_Tb_riskOne_71 ?_
        refine z_iconst (v := (nI 0)) d_Tb_riskOne_74 (by decide) ?_
        refine z_daldN hT2.ch ((show 0 < 9 by decide)) (by decide) d_Tb_riskOne_75 ?_
        refine z_iload_n 2 d_Tb_riskOne_76 rfl rfl ?_
        refine z_i2d d_Tb_riskOne_77 ?_
        refine z_dmul d_Tb_riskOne_78 (m0.nn (by omega)) ?_
        refine z_ldc2d qXd_Tb_381 d_Tb_riskOne_79 ?_
        refine z_ddiv d_Tb_riskOne_82 (v0.nn (by omega)) ?_
        refine z_dastN hT2.ch ((show 0 < 9 by decide)) (by decide) d_Tb_riskOne_83 ?_
        exact z_vret rfl (⟨rfl, _, hT2.putD _, fun j hj => by
            by_cases ej : j = 0
            · subst ej; rw [vu_s]; exact v0.mono (by omega)
            · rw [vu_n ej]; exact hm1 j hj, hF2.tr (zT.frput (tl_s 15) rfl)⟩) (by first | decide | omega) (by first | decide | omega) d_Tb_riskOne_84
      · skip
        have hi1 : 1 ≤ i := Nat.le_of_not_lt fun q => c_10 ((nI_ltI (a := i) (b := 1) (by omega) (by decide)).mpr q)
        have m1 := zmg_m (hm2 i (by omega)) (zmg_i x) (by omega) (by omega)
        have v1 := zmg_d m1 (by omega) (by omega)
        have m2 := zmg_m (hm2 (i - 1) (by omega)) (zmg_i (100 - x)) (by omega) (by omega)
        have v2 := zmg_d m2 (by omega) (by omega)
        have ms := zmg_a v1 v2 (by omega)
        refine z_aload_n 1 d_Tb_riskOne_13 rfl rfl ?_
        refine z_get zc_Tb 5 (by decide) qF_Tb_40 hT2.tb rfl d_Tb_riskOne_14 ?_
        refine z_iload_n 0 d_Tb_riskOne_17 rfl rfl ?_
        refine z_aload_n 1 d_Tb_riskOne_18 rfl rfl ?_
        refine z_get zc_Tb 5 (by decide) qF_Tb_40 hT2.tb rfl d_Tb_riskOne_19 ?_
        refine z_iload_n 0 d_Tb_riskOne_22 rfl rfl ?_
        refine z_daldN hT2.ch ((show i < 9 by omega)) (by decide) d_Tb_riskOne_23 ?_
        refine z_iload_n 2 d_Tb_riskOne_24 rfl rfl ?_
        refine z_i2d d_Tb_riskOne_25 ?_
        refine z_dmul d_Tb_riskOne_26 (m1.nn (by omega)) ?_
        refine z_ldc2d qXd_Tb_381 d_Tb_riskOne_27 ?_
        refine z_ddiv d_Tb_riskOne_30 (v1.nn (by omega)) ?_
        refine z_aload_n 1 d_Tb_riskOne_31 rfl rfl ?_
        refine z_get zc_Tb 5 (by decide) qF_Tb_40 hT2.tb rfl d_Tb_riskOne_32 ?_
        refine z_iload_n 0 d_Tb_riskOne_35 rfl rfl ?_
        refine z_iconst (v := 1) d_Tb_riskOne_36 (by decide) ?_
        refine z_isub d_Tb_riskOne_37 ?_
        refine z_topv (nI_s1 hi1 (by omega)) ?_
        refine z_daldN hT2.ch ((show i - 1 < 9 by omega)) (by decide) d_Tb_riskOne_38 ?_
        refine z_bipush (v := 100) d_Tb_riskOne_39 (by decide) ?_
        refine z_iload_n 2 d_Tb_riskOne_41 rfl rfl ?_
        refine z_isub d_Tb_riskOne_42 ?_
        refine z_i2d d_Tb_riskOne_43 ?_
        refine z_dmul d_Tb_riskOne_44 (m2.nn (by omega)) ?_
        refine z_ldc2d qXd_Tb_381 d_Tb_riskOne_45 ?_
        refine z_ddiv d_Tb_riskOne_48 (v2.nn (by omega)) ?_
        refine z_dadd d_Tb_riskOne_49 (ms.nn (by omega)) ?_
        refine z_dastN hT2.ch ((show i < 9 by omega)) (by decide) d_Tb_riskOne_50 ?_
        have hT3 := hT2.putD (vf_upd D2 i (FP.dadd (FP.ddiv (FP.dmul (D2 i) (FP.i2d x)) 4636737291354636288) (FP.ddiv (FP.dmul (D2 (i - 1)) (FP.i2d (100 - x))) 4636737291354636288)))
        refine z_iinc (v := nI (i - 1)) (L' := [(2, _), (0, _), (1, _)]) 0 d_Tb_riskOne_51 rfl ((z_m1 _).trans (nI_s1 hi1 (by omega))) (by decide) rfl ?_
        refine z_goto 8 d_Tb_riskOne_54 (by decide) ?_
        refine ih_8 (i - 1) _ _ (by omega) (by omega) hT3 (hF2.tr (zT.frput (tl_s 15) rfl)) (fun j hj => ?_) (fun j hj => ?_)
        · by_cases ej : j = i
          · subst ej; rw [vu_s]; exact ms
          · rw [vu_n ej]; exact hm1 j hj
        · rw [vu_n (by omega)]; exact hm2 j (by omega)
  exact key_8 9 8 G D (by omega) (by omega) hT zFr.rf (fun j hj => (hD j hj).mono (by omega)) (fun j hj => hD j (by omega))
