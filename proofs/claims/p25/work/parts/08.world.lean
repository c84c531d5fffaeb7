
/-! worlds: roles (numbers) have addresses A; the cell of a role r is cell r of its own row of numbers V r -/
def rset (V : Nat → Nat → Int32) (r : Nat) (v : Nat → Int32) : Nat → Nat → Int32 := fun q => if q = r then v else V q
theorem rset_s {V : Nat → Nat → Int32} {r : Nat} {v : Nat → Int32} : rset V r v r = v := if_pos rfl
theorem rset_n {V : Nat → Nat → Int32} {r q : Nat} {v : Nat → Int32} (h : q ≠ r) : rset V r v q = V q := if_neg h
def zW (A : Nat → Nat) (live : Nat → Prop) (cell : Nat → (Nat → Int32) → va_E) (V : Nat → Nat → Int32) (G : zG) : Prop := (∀ r q, live r → live q → A r = A q → r = q) ∧ ∀ r, live r → G (A r) = some (cell r (V r))
/-- G' is G but for the cells of a world -/
def zFr (A : Nat → Nat) (live : Nat → Prop) (G G' : zG) : Prop := ∀ a v, G a = some v → (∀ r, live r → a ≠ A r) → G' a = some v
section ZW
variable {A : Nat → Nat} {live : Nat → Prop} {cell : Nat → (Nat → Int32) → va_E} {V : Nat → Nat → Int32} {G G1 G2 : zG}
theorem zFr.rf : zFr A live G G := fun _ _ h _ => h
theorem zFr.tr (h1 : zFr A live G G1) (h2 : zFr A live G1 G2) : zFr A live G G2 := fun a v h hn => h2 a v (h1 a v h hn) hn
theorem zFr.put {r : Nat} {w : va_E} (hr : live r) : zFr A live G (zu G (A r) w) := fun a v h hn => by rw [zu_n (hn r hr)]; exact h
theorem zW.put (h : zW A live cell V G) {r : Nat} (hr : live r) (v : Nat → Int32) : zW A live cell (rset V r v) (zu G (A r) (cell r v)) := by
  refine ⟨h.1, fun q hq => ?_⟩
  by_cases e : q = r
  · subst e
    rw [zu_s, rset_s]
  · rw [zu_n (fun z => e (h.1 q r hq hr z)), rset_n e]
    exact h.2 q hq
theorem zW.put' (h : zW A live cell V G) {r a : Nat} {w : va_E} (hr : live r) (v : Nat → Int32) (ha : a = A r) (hw : w = cell r v) : zW A live cell (rset V r v) (zu G a w) := by
  subst ha; subst hw; exact h.put hr v
end ZW
/-! ArrayList: an array list at h: its data at a (a < cap cells, f), n of them -/
def zAL (d : zD) (h a cap n : Nat) (mc : Int32) (f : Nat → Option Nat) (G : zG) : Prop := G h = some (zob 2 [.int mc, .ref a, .int (nI n)]) ∧ G a = some (zO d cap f) ∧ n ≤ cap ∧ cap < 2 ^ 30

theorem d_AL_size_0 : decode c_AL_size 0 = .ok (.aload_n 0, 1) := by decide +kernel
theorem d_AL_size_1 : decode c_AL_size 1 = .ok (.getfield 48, 3) := by decide +kernel
theorem d_AL_size_4 : decode c_AL_size 4 = .ok (.ireturn, 1) := by decide +kernel
set_option maxHeartbeats 4000000 in
set_option maxRecDepth 100000 in
theorem m_AL_size {g0 : State} {d : zD} {l : Launch} {a0 : Array Value} (hs0 : zS0 d a0 g0) (hst : l.stackTraces = false) {G : zG} {h n : Nat} {mc : Int32} {w : Value} (hG_AL : G h = some (zob 2 [.int mc, w, .int (nI n)])) : zMet g0 d l y_AL_size c_AL_size 1 ((Option.some Jvm.ClassFile.FieldType.int)) 1 0 0 [.ref h] (G) (zEq (some (.int (nI n))) G) (zNo) := by
  refine z_entry hs0 hst (by decide) (Nat.le_of_ble_eq_true rfl) (fun p e s m args below meth c => ?_)
  refine z_aload_n 0 d_AL_size_0 rfl rfl ?_
  refine z_get zc_AL 2 (by decide) qF_AL_48 hG_AL rfl d_AL_size_1 ?_
  exact z_iret rfl (⟨rfl, rfl⟩) (by first | decide | omega) (by first | decide | omega) d_AL_size_4
theorem d_Pr_checkIndex_0 : decode c_Pr_checkIndex 0 = .ok (.iload_n 0, 1) := by decide +kernel
theorem d_Pr_checkIndex_1 : decode c_Pr_checkIndex 1 = .ok (.ifCond .lt 8, 3) := by decide +kernel
theorem d_Pr_checkIndex_4 : decode c_Pr_checkIndex 4 = .ok (.iload_n 0, 1) := by decide +kernel
theorem d_Pr_checkIndex_5 : decode c_Pr_checkIndex 5 = .ok (.iload_n 1, 1) := by decide +kernel
theorem d_Pr_checkIndex_6 : decode c_Pr_checkIndex 6 = .ok (.if_icmp .lt 10, 3) := by decide +kernel
theorem d_Pr_checkIndex_16 : decode c_Pr_checkIndex 16 = .ok (.iload_n 0, 1) := by decide +kernel
theorem d_Pr_checkIndex_17 : decode c_Pr_checkIndex 17 = .ok (.ireturn, 1) := by decide +kernel
set_option maxHeartbeats 4000000 in
set_option maxRecDepth 100000 in
theorem m_Pr_checkIndex {g0 : State} {d : zD} {l : Launch} {a0 : Array Value} (hs0 : zS0 d a0 g0) (hst : l.stackTraces = false) {G : zG} {j n : Nat} (hj : j < n) (hn : n < 2 ^ 30) : zMet g0 d l y_Pr_checkIndex c_Pr_checkIndex 3 ((Option.some Jvm.ClassFile.FieldType.int)) 8 0 0 [.int (nI j), .int (nI n), .null] (G) (zEq (some (.int (nI j))) G) (zNo) := by
  refine z_entry hs0 hst (by decide) (Nat.le_of_ble_eq_true rfl) (fun p e s m args below meth c => ?_)
  refine z_iload_n 0 d_Pr_checkIndex_0 rfl rfl ?_
  refine z_if_lt 9 d_Pr_checkIndex_1 (by decide) (fun c_1 => (by exfalso; simp (disch := omega) only [Int32.lt_iff_toInt_lt, Int32.le_iff_toInt_le, ← Int32.toInt_inj, nI_toInt, Int32.reduceToInt] at c_1; omega)) (fun c_1 => ?_)
  refine z_iload_n 0 d_Pr_checkIndex_4 rfl rfl ?_
  refine z_iload_n 1 d_Pr_checkIndex_5 rfl rfl ?_
  refine z_icmp_lt 16 d_Pr_checkIndex_6 (by decide) (fun c_6 => ?_) (fun c_6 => (by exfalso; simp (disch := omega) only [Int32.lt_iff_toInt_lt, Int32.le_iff_toInt_le, ← Int32.toInt_inj, nI_toInt, Int32.reduceToInt] at c_6; omega))
  refine z_iload_n 0 d_Pr_checkIndex_16 rfl rfl ?_
  exact z_iret rfl (⟨rfl, rfl⟩) (by first | decide | omega) (by first | decide | omega) d_Pr_checkIndex_17
theorem d_Ob_checkIndex_0 : decode c_Ob_checkIndex 0 = .ok (.iload_n 0, 1) := by decide +kernel
theorem d_Ob_checkIndex_1 : decode c_Ob_checkIndex 1 = .ok (.iload_n 1, 1) := by decide +kernel
theorem d_Ob_checkIndex_2 : decode c_Ob_checkIndex 2 = .ok (.aconst_null, 1) := by decide +kernel
theorem d_Ob_checkIndex_3 : decode c_Ob_checkIndex 3 = .ok (.invokestatic 105, 3) := by decide +kernel
theorem d_Ob_checkIndex_6 : decode c_Ob_checkIndex 6 = .ok (.ireturn, 1) := by decide +kernel
set_option maxHeartbeats 4000000 in
set_option maxRecDepth 100000 in
theorem m_Ob_checkIndex {g0 : State} {d : zD} {l : Launch} {a0 : Array Value} (hs0 : zS0 d a0 g0) (hst : l.stackTraces = false) {G : zG} {j n : Nat} (hj : j < n) (hn : n < 2 ^ 30) : zMet g0 d l y_Ob_checkIndex c_Ob_checkIndex 2 ((Option.some Jvm.ClassFile.FieldType.int)) 9 0 0 [.int (nI j), .int (nI n)] (G) (zEq (some (.int (nI j))) G) (zNo) := by
  refine z_entry hs0 hst (by decide) (Nat.le_of_ble_eq_true rfl) (fun p e s m args below meth c => ?_)
  refine z_iload_n 0 d_Ob_checkIndex_0 rfl rfl ?_
  refine z_iload_n 1 d_Ob_checkIndex_1 rfl rfl ?_
  refine z_null d_Ob_checkIndex_2 ?_
  refine z_callS0 (m_Pr_checkIndex hs0 hst hj hn) ym_Pr_checkIndex qM_Ob_105 qS_Pr_checkIndex d_Ob_checkIndex_3 rfl (Nat.le_of_ble_eq_true rfl) ⟨Nat.zero_le _, Nat.zero_le _⟩ ⟨Nat.le_of_ble_eq_true rfl, Nat.le_of_ble_eq_true rfl⟩ ?_
  exact z_iret rfl (⟨rfl, rfl⟩) (by first | decide | omega) (by first | decide | omega) d_Ob_checkIndex_6
theorem d_AL_elementData_0 : decode c_AL_elementData 0 = .ok (.aload_n 0, 1) := by decide +kernel
theorem d_AL_elementData_1 : decode c_AL_elementData 1 = .ok (.getfield 9, 3) := by decide +kernel
theorem d_AL_elementData_4 : decode c_AL_elementData 4 = .ok (.iload_n 1, 1) := by decide +kernel
theorem d_AL_elementData_5 : decode c_AL_elementData 5 = .ok (.aaload, 1) := by decide +kernel
theorem d_AL_elementData_6 : decode c_AL_elementData 6 = .ok (.areturn, 1) := by decide +kernel
set_option maxHeartbeats 4000000 in
set_option maxRecDepth 100000 in
theorem m_AL_elementData {g0 : State} {d : zD} {l : Launch} {a0 : Array Value} (hs0 : zS0 d a0 g0) (hst : l.stackTraces = false) {G : zG} {h a cap n j q : Nat} {mc : Int32} {f : Nat → Option Nat} (hA : zAL d h a cap n mc f G) (hj : j < n) (hq : f j = some q) : zMet g0 d l y_AL_elementData c_AL_elementData 2 ((Option.some (Jvm.ClassFile.FieldType.object "java/lang/Object"))) 1 0 0 [.ref h, .int (nI j)] (G) (zEq (some (.ref q)) G) (zNo) := by
  obtain ⟨hG_AL, hG_a, hn, hc⟩ := id hA
  refine z_entry hs0 hst (by decide) (Nat.le_of_ble_eq_true rfl) (fun p e s m args below meth c => ?_)
  refine z_aload_n 0 d_AL_elementData_0 rfl rfl ?_
  refine z_get zc_AL 1 (by decide) qF_AL_9 hG_AL rfl d_AL_elementData_1 ?_
  refine z_iload_n 1 d_AL_elementData_4 rfl rfl ?_
  refine z_aald hG_a (vp_in_nI (by omega) (by omega)) d_AL_elementData_5 ?_
  rw [nI_clamp (show j < 2 ^ 31 by omega), hq]
  exact z_aret rfl (Or.inl ⟨_, rfl⟩) (Or.inr ⟨_, rfl⟩) (⟨rfl, rfl⟩) (by first | decide | omega) (by first | decide | omega) d_AL_elementData_6
theorem d_AL_get_0 : decode c_AL_get 0 = .ok (.iload_n 1, 1) := by decide +kernel
theorem d_AL_get_1 : decode c_AL_get 1 = .ok (.aload_n 0, 1) := by decide +kernel
theorem d_AL_get_2 : decode c_AL_get 2 = .ok (.getfield 48, 3) := by decide +kernel
theorem d_AL_get_5 : decode c_AL_get 5 = .ok (.invokestatic 118, 3) := by decide +kernel
theorem d_AL_get_8 : decode c_AL_get 8 = .ok (.pop, 1) := by decide +kernel
theorem d_AL_get_9 : decode c_AL_get 9 = .ok (.aload_n 0, 1) := by decide +kernel
theorem d_AL_get_10 : decode c_AL_get 10 = .ok (.iload_n 1, 1) := by decide +kernel
theorem d_AL_get_11 : decode c_AL_get 11 = .ok (.invokevirtual 123, 3) := by decide +kernel
theorem d_AL_get_14 : decode c_AL_get 14 = .ok (.areturn, 1) := by decide +kernel
set_option maxHeartbeats 4000000 in
set_option maxRecDepth 100000 in
theorem m_AL_get {g0 : State} {d : zD} {l : Launch} {a0 : Array Value} (hs0 : zS0 d a0 g0) (hst : l.stackTraces = false) {G : zG} {h a cap n j q : Nat} {mc : Int32} {f : Nat → Option Nat} (hA : zAL d h a cap n mc f G) (hj : j < n) (hq : f j = some q) : zMet g0 d l y_AL_get c_AL_get 2 ((Option.some (Jvm.ClassFile.FieldType.object "java/lang/Object"))) 10 0 0 [.ref h, .int (nI j)] (G) (zEq (some (.ref q)) G) (zNo) := by
  obtain ⟨hG_AL, hG_a, hn, hc⟩ := id hA
  refine z_entry hs0 hst (by decide) (Nat.le_of_ble_eq_true rfl) (fun p e s m args below meth c => ?_)
  refine z_iload_n 1 d_AL_get_0 rfl rfl ?_
  refine z_aload_n 0 d_AL_get_1 rfl rfl ?_
  refine z_get zc_AL 2 (by decide) qF_AL_48 hG_AL rfl d_AL_get_2 ?_
  refine z_callS0 (m_Ob_checkIndex hs0 hst hj (by omega)) ym_Ob_checkIndex qM_AL_118 qS_Ob_checkIndex d_AL_get_5 rfl (Nat.le_of_ble_eq_true rfl) ⟨Nat.zero_le _, Nat.zero_le _⟩ ⟨Nat.le_of_ble_eq_true rfl, Nat.le_of_ble_eq_true rfl⟩ ?_
  refine z_pop d_AL_get_8 rfl ?_
  refine z_aload_n 0 d_AL_get_9 rfl rfl ?_
  refine z_iload_n 1 d_AL_get_10 rfl rfl ?_
  refine z_callV0 (m_AL_elementData hs0 hst hA hj hq) ym_AL_elementData qM_AL_123 qI_AL_elementData qV_AL_AL_elementData zc_AL hG_AL d_AL_get_11 rfl (Nat.le_of_ble_eq_true rfl) ⟨Nat.zero_le _, Nat.zero_le _⟩ ⟨Nat.le_of_ble_eq_true rfl, Nat.le_of_ble_eq_true rfl⟩ ?_
  exact z_aret rfl (Or.inl ⟨_, rfl⟩) (Or.inr ⟨_, rfl⟩) (⟨rfl, rfl⟩) (by first | decide | omega) (by first | decide | omega) d_AL_get_14

theorem x97 (x : Int32) : (x ^^^ 97).toInt < 0 ↔ x.toInt < 0 := by
  have h1 : (x ^^^ 97).toBitVec.msb = x.toBitVec.msb := by
    rw [Int32.toBitVec_xor, BitVec.msb_xor, show (97 : Int32).toBitVec.msb = false from by decide, Bool.xor_false]
  rw [BitVec.msb_eq_toInt, BitVec.msb_eq_toInt] at h1
  exact decide_eq_decide.mp h1
theorem i97 (x : Int32) : (x - x / 97 * 97).toInt = x.toInt.tmod 97 := by
  have h1 : (x / 97).toInt = x.toInt.tdiv 97 := Int32.toInt_div_of_ne_right x 97 (by decide)
  have hb := x.le_toInt
  have hb2 := x.toInt_lt
  have hd := Int.mul_tdiv_add_tmod x.toInt 97
  have hm : x.toInt.tmod 97 < 97 ∧ -97 < x.toInt.tmod 97 := by
    rcases Int.le_total 0 x.toInt with h | h
    · rw [Int.tmod_eq_emod_of_nonneg h]; omega
    · have h2 : x.toInt = -(-x.toInt) := by omega
      rw [h2, Int.neg_tmod, Int.tmod_eq_emod_of_nonneg (by omega)]; omega
  have hs : (0 ≤ x.toInt → 0 ≤ x.toInt.tmod 97) ∧ (x.toInt ≤ 0 → x.toInt.tmod 97 ≤ 0) := by
    constructor
    · intro h
      rw [Int.tmod_eq_emod_of_nonneg h]; omega
    · intro h
      have h2 : x.toInt = -(-x.toInt) := by omega
      rw [h2, Int.neg_tmod, Int.tmod_eq_emod_of_nonneg (by omega)]; omega
  rw [Int32.toInt_sub, Int32.toInt_mul, h1, show (97 : Int32).toInt = 97 from rfl]
  generalize x.toInt.tdiv 97 = q at *
  generalize x.toInt.tmod 97 = r at *
  have e1 : (q * 97).bmod (2 ^ 32) = q * 97 := Int.bmod_eq_of_le (by omega) (by omega)
  rw [e1]
  have e2 : (x.toInt - q * 97).bmod (2 ^ 32) = x.toInt - q * 97 := Int.bmod_eq_of_le (by omega) (by omega)
  rw [e2]
  omega
/-- Math.floorMod(x, 97) -/
def zfm (x : Int32) : Int32 := Int32.ofInt (x.toInt % 97)
theorem zfm_i (x : Int32) : (zfm x).toInt = x.toInt % 97 := by
  unfold zfm
  rw [Int32.toInt_ofInt, show (Int32.size : Nat) = 2 ^ 32 from rfl]
  exact Int.bmod_eq_of_le (by omega) (by omega)
theorem zfm_n (x : Int32) : ∃ j : Nat, j < 97 ∧ zfm x = nI j ∧ (j : Int) = x.toInt % 97 := by
  have h0 := zfm_i x
  have h1 : 0 ≤ x.toInt % 97 := Int.emod_nonneg _ (by decide)
  have h2 : x.toInt % 97 < 97 := Int.emod_lt_of_pos _ (by decide)
  refine ⟨(x.toInt % 97).toNat, by omega, ?_, by omega⟩
  rw [← Int32.toInt_inj, h0, nI_toInt (by omega)]
  omega
theorem zfm1 {x : Int32} (h1 : ¬ 0 ≤ x ^^^ 97) (h2 : ¬ x - x / 97 * 97 = 0) : x - x / 97 * 97 + 97 = zfm x := by
  have h3 := i97 x
  rw [Int32.le_iff_toInt_le, show (0 : Int32).toInt = 0 from rfl] at h1
  have h4 := (x97 x).mp (by omega)
  have h5 : ¬ x.toInt.tmod 97 = 0 := fun h => h2 (by rw [← Int32.toInt_inj, h3, h]; rfl)
  rw [← Int32.toInt_inj, Int32.toInt_add, h3, zfm_i, show (97 : Int32).toInt = 97 from rfl]
  have h6 : x.toInt.tmod 97 = - ((-x.toInt) % 97) := by
    rw [← Int.tmod_eq_emod_of_nonneg (by omega), ← Int.neg_tmod, Int.neg_neg]
  rw [h6] at h5 ⊢
  rw [Int.bmod_eq_of_le (by omega) (by omega)]
  omega
theorem zfm2 {x : Int32} (h1 : 0 ≤ x ^^^ 97 ∨ x - x / 97 * 97 = 0) : x - x / 97 * 97 = zfm x := by
  have h3 := i97 x
  rw [← Int32.toInt_inj, zfm_i]
  rcases h1 with h1 | h1
  · rw [Int32.le_iff_toInt_le, show (0 : Int32).toInt = 0 from rfl] at h1
    have h4 : 0 ≤ x.toInt := by
      have := x97 x
      omega
    rw [h3, Int.tmod_eq_emod_of_nonneg h4]
  · rw [h1] at h3 ⊢
    have h5 : x.toInt.tmod 97 = 0 := h3.symm
    rcases Int.le_total 0 x.toInt with h | h
    · rw [Int.tmod_eq_emod_of_nonneg h] at h5
      rw [h5]; rfl
    · have h6 : x.toInt.tmod 97 = - ((-x.toInt) % 97) := by
        rw [← Int.tmod_eq_emod_of_nonneg (by omega), ← Int.neg_tmod, Int.neg_neg]
      rw [h6] at h5
      show (0 : Int) = _
      omega


theorem z_entryF {g0 : State} {d : zD} {y : MethodName} {cc : ByteArray} {nL : Nat} {ret : Option FieldType} {l : Launch} {G : zG} {post : Option Value → zG → Prop} {px : String → zG → Prop} {f mc ms : Nat} {av : List Value} {a0 : Array Value} (hs0 : zS0 d a0 g0) (hst : l.stackTraces = false) (hy : plainFor y = true) (hlen : (lg_sl av).length ≤ nL)
  (body : ∀ (p : Program) (e : Env) (s : State) (m : MethodId) (args : Array Value) (below : List Frame) (meth : Method) (c : Code), Z g0 d y cc nL ret [] p l e (zR f mc ms) s m args below meth c (vx_MQ below (zQc g0 d post) (zXc g0 d px) args s mc ms (zA g0)) 0 0 G (lv_args 0 av) [] 0) : zMet g0 d l y cc nL ret f mc ms av G post px := by
  refine MetFree.of_bodySF (code := cc) (maxLocals := nL) (ret := ret) hy ?_ ?_
  · intro args s m h hn
    obtain ⟨meth, c, h1, h2, h3, h4, h5, h6, -, -⟩ := Cond.code_spec hn (atoms_spec (ws := [Cond.code y cc nL ret]) h _ List.mem_cons_self)
    exact ⟨meth, c, h1, h2, h3, h4, h5, h6⟩
  · intro p e s m args below meth c s₁ B hml hv _
    have hh0 : s₁.heap = s.heap := by rw [B.state]; rfl
    have hT : ∀ x ∈ c.exceptionTable.toList, False := by
      obtain ⟨meth9, c9, h1, h2, -, -, -, -, h7, -⟩ := Cond.code_spec B.named (atoms_spec (ws := [Cond.code y cc nL ret]) B.pre _ List.mem_cons_self)
      cases Option.some.inj (h1.symm.trans B.method)
      cases Option.some.inj (h2.symm.trans (Stand.of_body B).code)
      intro x hx
      rw [Array.isEmpty_iff.mp h7] at hx
      cases hx
    obtain ⟨rfl, hW, hO, hP⟩ := hv
    have hl' := lv_entry av (n := nL) hlen
    have K := fun ls hl => body p e s m av.toArray below meth c ⟨⟨a0, hs0⟩, hst, B.exec, B.bytes, hml, findClass_of_methodNamed B.named, hW, hO, B.notSynchronized, B.returns, (name_of_methodNamed B.named B.method).1, List.eq_nil_iff_forall_not_mem.mpr hT⟩ _ _ ls hP va_S.rf hl
    have K2 := K _ hl'
    have K3 : W p l e (zR f mc ms) s m av.toArray below meth c s.heap [] 0 0 (vx_MQ below (zQc g0 d post) (zXc g0 d px) av.toArray s mc ms (zA g0)) (entryFrame m av.toArray nL) := by
      rw [lg_entry_eq]
      exact K2
    obtain ⟨t, a1, o, b1, b2, b3⟩ := K3 s₁ hh0 (Stand.of_body B)
    exact ⟨t, o, a1, b1, b2, b3⟩

theorem d_Ma_floorMod_0 : decode c_Ma_floorMod 0 = .ok (.iload_n 0, 1) := by decide +kernel
theorem d_Ma_floorMod_1 : decode c_Ma_floorMod 1 = .ok (.iload_n 1, 1) := by decide +kernel
theorem d_Ma_floorMod_2 : decode c_Ma_floorMod 2 = .ok (.irem, 1) := by decide +kernel
theorem d_Ma_floorMod_3 : decode c_Ma_floorMod 3 = .ok (.istore_n 2, 1) := by decide +kernel
theorem d_Ma_floorMod_4 : decode c_Ma_floorMod 4 = .ok (.iload_n 0, 1) := by decide +kernel
theorem d_Ma_floorMod_5 : decode c_Ma_floorMod 5 = .ok (.iload_n 1, 1) := by decide +kernel
theorem d_Ma_floorMod_6 : decode c_Ma_floorMod 6 = .ok (.ixor, 1) := by decide +kernel
theorem d_Ma_floorMod_7 : decode c_Ma_floorMod 7 = .ok (.ifCond .ge 11, 3) := by decide +kernel
theorem d_Ma_floorMod_10 : decode c_Ma_floorMod 10 = .ok (.iload_n 2, 1) := by decide +kernel
theorem d_Ma_floorMod_11 : decode c_Ma_floorMod 11 = .ok (.ifCond .eq 7, 3) := by decide +kernel
theorem d_Ma_floorMod_14 : decode c_Ma_floorMod 14 = .ok (.iload_n 2, 1) := by decide +kernel
theorem d_Ma_floorMod_15 : decode c_Ma_floorMod 15 = .ok (.iload_n 1, 1) := by decide +kernel
theorem d_Ma_floorMod_16 : decode c_Ma_floorMod 16 = .ok (.iadd, 1) := by decide +kernel
theorem d_Ma_floorMod_17 : decode c_Ma_floorMod 17 = .ok (.ireturn, 1) := by decide +kernel
theorem d_Ma_floorMod_18 : decode c_Ma_floorMod 18 = .ok (.iload_n 2, 1) := by decide +kernel
theorem d_Ma_floorMod_19 : decode c_Ma_floorMod 19 = .ok (.ireturn, 1) := by decide +kernel
set_option maxHeartbeats 4000000 in
set_option maxRecDepth 100000 in
theorem m_Ma_floorMod {g0 : State} {d : zD} {l : Launch} {a0 : Array Value} (hs0 : zS0 d a0 g0) (hst : l.stackTraces = false) {G : zG} (x : Int32) : zMet g0 d l y_Ma_floorMod c_Ma_floorMod 3 ((Option.some Jvm.ClassFile.FieldType.int)) 1 0 0 [.int x, .int 97] (G) (zEq (some (.int (zfm x))) G) (zNo) := by
  refine z_entryF hs0 hst (by decide +kernel) (Nat.le_of_ble_eq_true rfl) (fun p e s m args below meth c => ?_)
  refine z_iload_n 0 d_Ma_floorMod_0 rfl rfl ?_
  refine z_iload_n 1 d_Ma_floorMod_1 rfl rfl ?_
  refine z_irem d_Ma_floorMod_2 (by decide) ?_
  refine z_istore_n (L' := [(2, _), (0, _), (1, _)]) d_Ma_floorMod_3 rfl (by decide) rfl ?_
  refine z_iload_n 1 d_Ma_floorMod_4 rfl rfl ?_
  refine z_iload_n 2 d_Ma_floorMod_5 rfl rfl ?_
  refine z_ixor d_Ma_floorMod_6 ?_
  refine z_if_ge 18 d_Ma_floorMod_7 (by decide) (fun c_7 => ?_) (fun c_7 => ?_)
  · skip
    refine z_iload_n 0 d_Ma_floorMod_18 rfl rfl ?_
    exact z_iret rfl (⟨by first | rw [zfm2 (Or.inl c_7)] | rw [zfm2 (Or.inr c_11)], rfl⟩) (by first | decide | omega) (by first | decide | omega) d_Ma_floorMod_19
  · skip
    refine z_iload_n 0 d_Ma_floorMod_10 rfl rfl ?_
    refine z_if_eq 18 d_Ma_floorMod_11 (by decide) (fun c_11 => ?_) (fun c_11 => ?_)
    · skip
      refine z_iload_n 0 d_Ma_floorMod_18 rfl rfl ?_
      exact z_iret rfl (⟨by first | rw [zfm2 (Or.inl c_7)] | rw [zfm2 (Or.inr c_11)], rfl⟩) (by first | decide | omega) (by first | decide | omega) d_Ma_floorMod_19
    · skip
      refine z_iload_n 0 d_Ma_floorMod_14 rfl rfl ?_
      refine z_iload_n 2 d_Ma_floorMod_15 rfl rfl ?_
      refine z_iadd d_Ma_floorMod_16 ?_
      exact z_iret rfl (⟨by rw [zfm1 c_7 c_11], rfl⟩) (by first | decide | omega) (by first | decide | omega) d_Ma_floorMod_17
