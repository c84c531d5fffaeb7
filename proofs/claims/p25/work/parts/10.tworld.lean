
/-! the class's world: roles 0 this, 1 2 keepers (list, data), 3 4 secrets, 5..9 register, 10 11 curve, 12 13 14 group, 15 chances; 100+k keepers, 200+i secrets, 300+i shares, 400+i epochs -/
def tcell (d : zD) (A : Nat → Nat) (D : Nat → UInt64) (nk ns : Nat) (r : Nat) (v : Nat → Int32) : va_E :=
  if r < 16 then (match r with
    | 0 => zob 8 [.ref (A 1), .ref (A 3), .ref (A 5), .ref (A 10), .ref (A 12), .ref (A 15), .int (v 0), .int (v 1), .int (v 2), .int (v 3)]
    | 1 => zob 2 [.int (v 0), .ref (if nk = 0 then d.2.2 else A 2), .int (nI nk)]
    | 2 => zO d 10 (fun j => if j < nk then some (A (100 + j)) else none)
    | 3 => zob 2 [.int (v 0), .ref (if ns = 0 then d.2.2 else A 4), .int (nI ns)]
    | 4 => zO d 10 (fun j => if j < ns then some (A (200 + j)) else none)
    | 5 => zob 6 [.ref (A 6), .ref (A 7), .ref (A 8), .ref (A 9), .int (v 0)]
    | 9 => zI d 128 v
    | 10 => zob 3 [.ref (A 11), .int (v 0)]
    | 11 => zI d 4 v
    | 12 => zob 4 [.ref (A 13), .ref (A 14), .int (v 0), .int (v 1), .int (v 2), .int (v 3)]
    | 13 => zI d 97 v
    | 14 => zI d 9 v
    | 15 => zDb d 9 D
    | _ => zI d 64 v)
  else if r < 200 then zob 5 [.int (v 0), .int (v 1), .int (v 2), .int (v 3), .int (v 4), .int (v 5)]
  else if r < 300 then zob 7 [.int (v 0), .int (v 1), .int (v 2), .ref (A (r + 100)), .ref (A (r + 200)), .int (v 3), .int (v 4), .int (v 5)]
  else zI d 8 v
def tlive (nk ns r : Nat) : Prop := (r < 16 ∧ (r = 2 → 0 < nk) ∧ (r = 4 → 0 < ns)) ∨ (100 ≤ r ∧ r < 100 + nk) ∨ (200 ≤ r ∧ r < 200 + ns) ∨ (300 ≤ r ∧ r < 300 + ns) ∨ (400 ≤ r ∧ r < 400 + ns)
/-- what the numbers of the class's world keep to -/
def tInv (V : Nat → Nat → Int32) (nk ns : Nat) : Prop := nk ≤ 8 ∧ ns ≤ 6 ∧ (∃ q, q < 512 ∧ V 12 1 = nI q) ∧ (∃ c, c ≤ 64 ∧ V 5 0 = nI c) ∧ (∀ i, i < ns → ∃ t, 1 ≤ t ∧ t ≤ 4 ∧ V (200 + i) 0 = nI t) ∧ (∀ k, k < nk → V (100 + k) 0 = nI k)
def zT (d : zD) (A : Nat → Nat) (D : Nat → UInt64) (V : Nat → Nat → Int32) (nk ns : Nat) (G : zG) : Prop := zW A (tlive nk ns) (tcell d A D nk ns) V G ∧ tInv V nk ns
abbrev tFr (A : Nat → Nat) (nk ns : Nat) (G G' : zG) : Prop := zFr A (tlive nk ns) G G'
/-- rows outside P are as they were -/
def zKp (P : Nat → Prop) (V V' : Nat → Nat → Int32) : Prop := ∀ r, ¬ P r → V' r = V r
theorem zKp.rf {P : Nat → Prop} {V : Nat → Nat → Int32} : zKp P V V := fun _ _ => rfl
theorem zKp.tr {P : Nat → Prop} {V V1 V2 : Nat → Nat → Int32} (h1 : zKp P V V1) (h2 : zKp P V1 V2) : zKp P V V2 := fun r h => (h2 r h).trans (h1 r h)
theorem zKp.set {P : Nat → Prop} {V : Nat → Nat → Int32} {r : Nat} {v : Nat → Int32} (h : P r) : zKp P V (rset V r v) := fun q hq => rset_n (fun e => hq (e ▸ h))
theorem zKp.mono {P P' : Nat → Prop} {V V' : Nat → Nat → Int32} (h : zKp P V V') (hs : ∀ r, P r → P' r) : zKp P' V V' := fun r hr => h r (fun q => hr (hs r q))
section ZT
variable {d : zD} {A : Nat → Nat} {D : Nat → UInt64} {V : Nat → Nat → Int32} {nk ns : Nat} {G G1 : zG}
theorem tlive_s {r : Nat} (h : r < 16) (h2 : r ≠ 2) (h4 : r ≠ 4) : tlive nk ns r := Or.inl ⟨h, fun e => absurd e h2, fun e => absurd e h4⟩
theorem tlive_k {k : Nat} (h : k < nk) : tlive nk ns (100 + k) := Or.inr (Or.inl ⟨by omega, by omega⟩)
theorem tlive_i {i : Nat} (h : i < ns) : tlive nk ns (200 + i) := Or.inr (Or.inr (Or.inl ⟨by omega, by omega⟩))
theorem tlive_sh {i : Nat} (h : i < ns) : tlive nk ns (300 + i) := Or.inr (Or.inr (Or.inr (Or.inl ⟨by omega, by omega⟩)))
theorem tlive_ep {i : Nat} (h : i < ns) : tlive nk ns (400 + i) := Or.inr (Or.inr (Or.inr (Or.inr ⟨by omega, by omega⟩)))
theorem tcell_k {k : Nat} (h : k < 8) (v : Nat → Int32) : tcell d A D nk ns (100 + k) v = zob 5 [.int (v 0), .int (v 1), .int (v 2), .int (v 3), .int (v 4), .int (v 5)] := by
  unfold tcell
  rw [if_neg (by omega), if_pos (by omega)]
theorem tcell_i {i : Nat} (h : i < 6) (v : Nat → Int32) : tcell d A D nk ns (200 + i) v = zob 7 [.int (v 0), .int (v 1), .int (v 2), .ref (A (300 + i)), .ref (A (400 + i)), .int (v 3), .int (v 4), .int (v 5)] := by
  unfold tcell
  rw [if_neg (by omega), if_neg (by omega), if_pos (by omega), show 200 + i + 100 = 300 + i by omega, show 200 + i + 200 = 400 + i by omega]
theorem tcell_a {r : Nat} (h : 300 ≤ r) (v : Nat → Int32) : tcell d A D nk ns r v = zI d 8 v := by
  unfold tcell
  rw [if_neg (by omega), if_neg (by omega), if_neg (by omega)]
theorem zT.tb (h : zT d A D V nk ns G) : G (A 0) = some (zob 8 [.ref (A 1), .ref (A 3), .ref (A 5), .ref (A 10), .ref (A 12), .ref (A 15), .int (V 0 0), .int (V 0 1), .int (V 0 2), .int (V 0 3)]) := h.1.2 0 (tlive_s (by decide) (by decide) (by decide))
theorem zT.kl (h : zT d A D V nk ns G) : G (A 1) = some (zob 2 [.int (V 1 0), .ref (if nk = 0 then d.2.2 else A 2), .int (nI nk)]) := h.1.2 1 (tlive_s (by decide) (by decide) (by decide))
theorem zT.sl (h : zT d A D V nk ns G) : G (A 3) = some (zob 2 [.int (V 3 0), .ref (if ns = 0 then d.2.2 else A 4), .int (nI ns)]) := h.1.2 3 (tlive_s (by decide) (by decide) (by decide))
theorem zT.kA (h : zT d A D V nk ns G) {k : Nat} (hk : k < nk) : zAL d (A 1) (A 2) 10 nk (V 1 0) (fun j => if j < nk then some (A (100 + j)) else none) G := by
  refine ⟨?_, h.1.2 2 (Or.inl ⟨by decide, fun _ => by omega, fun e => absurd e (by decide)⟩), by have := h.2.1; omega, by decide⟩
  have := h.kl
  rw [if_neg (show ¬ nk = 0 by omega)] at this
  exact this
theorem zT.sA (h : zT d A D V nk ns G) {i : Nat} (hi : i < ns) : zAL d (A 3) (A 4) 10 ns (V 3 0) (fun j => if j < ns then some (A (200 + j)) else none) G := by
  refine ⟨?_, h.1.2 4 (Or.inl ⟨by decide, fun e => absurd e (by decide), fun _ => by omega⟩), by have := h.2.2.1; omega, by decide⟩
  have := h.sl
  rw [if_neg (show ¬ ns = 0 by omega)] at this
  exact this
theorem zT.ke (h : zT d A D V nk ns G) {k : Nat} (hk : k < nk) : G (A (100 + k)) = some (zob 5 [.int (V (100 + k) 0), .int (V (100 + k) 1), .int (V (100 + k) 2), .int (V (100 + k) 3), .int (V (100 + k) 4), .int (V (100 + k) 5)]) :=
  (h.1.2 _ (tlive_k hk)).trans (congrArg some (tcell_k (by have := h.2.1; omega) _))
theorem zT.se (h : zT d A D V nk ns G) {i : Nat} (hi : i < ns) : zSe d (A (200 + i)) (A (300 + i)) (A (400 + i)) (V (200 + i) 0) (V (200 + i) 1) (V (200 + i) 2) (V (300 + i)) (V (400 + i)) (V (200 + i) 3) (V (200 + i) 4) (V (200 + i) 5) G :=
  ⟨(h.1.2 _ (tlive_i hi)).trans (congrArg some (tcell_i (by have := h.2.2.1; omega) _)), (h.1.2 _ (tlive_sh hi)).trans (congrArg some (tcell_a (by omega) _)), (h.1.2 _ (tlive_ep hi)).trans (congrArg some (tcell_a (by omega) _)), fun e => by have := h.1.1 _ _ (tlive_sh hi) (tlive_ep hi) e; omega⟩
theorem zT.re (h : zT d A D V nk ns G) : G (A 5) = some (zob 6 [.ref (A 6), .ref (A 7), .ref (A 8), .ref (A 9), .int (V 5 0)]) := h.1.2 5 (tlive_s (by decide) (by decide) (by decide))
theorem zT.cu (h : zT d A D V nk ns G) : G (A 10) = some (zob 3 [.ref (A 11), .int (V 10 0)]) := h.1.2 10 (tlive_s (by decide) (by decide) (by decide))
theorem zT.cn (h : zT d A D V nk ns G) : G (A 11) = some (zI d 4 (V 11)) := h.1.2 11 (tlive_s (by decide) (by decide) (by decide))
theorem zT.gr (h : zT d A D V nk ns G) : G (A 12) = some (zob 4 [.ref (A 13), .ref (A 14), .int (V 12 0), .int (V 12 1), .int (V 12 2), .int (V 12 3)]) := h.1.2 12 (tlive_s (by decide) (by decide) (by decide))
theorem zT.gi (h : zT d A D V nk ns G) : G (A 13) = some (zI d 97 (V 13)) := h.1.2 13 (tlive_s (by decide) (by decide) (by decide))
theorem zT.gg (h : zT d A D V nk ns G) : G (A 14) = some (zI d 9 (V 14)) := h.1.2 14 (tlive_s (by decide) (by decide) (by decide))
theorem zT.ch (h : zT d A D V nk ns G) : G (A 15) = some (zDb d 9 D) := h.1.2 15 (tlive_s (by decide) (by decide) (by decide))
/-- a row is written -/
theorem zT.put (h : zT d A D V nk ns G) {r a : Nat} {w : va_E} (hr : tlive nk ns r) (v : Nat → Int32) (ha : a = A r) (hw : w = tcell d A D nk ns r v) (hi : tInv (rset V r v) nk ns) : zT d A D (rset V r v) nk ns (zu G a w) := ⟨h.1.put' hr v ha hw, hi⟩
theorem zT.frput {r a : Nat} {w : va_E} (hr : tlive nk ns r) (ha : a = A r) : tFr A nk ns G (zu G a w) := by
  subst ha
  exact zFr.put hr
end ZT
theorem tInv.off {V : Nat → Nat → Int32} {nk ns r : Nat} {v : Nat → Int32} (h : tInv V nk ns) (h1 : r ≠ 12) (h2 : r ≠ 5) (h3 : r < 100 ∨ 300 ≤ r) : tInv (rset V r v) nk ns := by
  obtain ⟨a, b, c, e, f, g⟩ := h
  refine ⟨a, b, by rw [rset_n (Ne.symm h1)]; exact c, by rw [rset_n (Ne.symm h2)]; exact e, fun i hi => ?_, fun k hk => ?_⟩
  · rw [rset_n (by omega)]; exact f i hi
  · rw [rset_n (by omega)]; exact g k hk

theorem d_Tb_allKeepers_0 : decode c_Tb_allKeepers 0 = .ok (.iconst 1, 1) := by decide +kernel
theorem d_Tb_allKeepers_1 : decode c_Tb_allKeepers 1 = .ok (.aload_n 0, 1) := by decide +kernel
theorem d_Tb_allKeepers_2 : decode c_Tb_allKeepers 2 = .ok (.getfield 10, 3) := by decide +kernel
theorem d_Tb_allKeepers_5 : decode c_Tb_allKeepers 5 = .ok (.invokevirtual 68, 3) := by decide +kernel
theorem d_Tb_allKeepers_8 : decode c_Tb_allKeepers 8 = .ok (.ishl, 1) := by decide +kernel
theorem d_Tb_allKeepers_9 : decode c_Tb_allKeepers 9 = .ok (.iconst 1, 1) := by decide +kernel
theorem d_Tb_allKeepers_10 : decode c_Tb_allKeepers 10 = .ok (.isub, 1) := by decide +kernel
theorem d_Tb_allKeepers_11 : decode c_Tb_allKeepers 11 = .ok (.ireturn, 1) := by decide +kernel
set_option maxHeartbeats 4000000 in
set_option maxRecDepth 100000 in
theorem m_Tb_allKeepers {g0 : State} {d : zD} {l : Launch} {a0 : Array Value} (hs0 : zS0 d a0 g0) (hst : l.stackTraces = false) {G : zG} {A : Nat → Nat} {D : Nat → UInt64} {V : Nat → Nat → Int32} {nk ns : Nat} (hT : zT d A D V nk ns G) : zMet g0 d l y_Tb_allKeepers c_Tb_allKeepers 1 ((Option.some Jvm.ClassFile.FieldType.int)) 2 0 0 [.ref (A 0)] (G) (zEq (some (.int (1 <<< (nI nk &&& 31) - 1))) G) (zNo) := by
  have hG_Tb := hT.tb
  have hnk : nk ≤ 8 := hT.2.1
  have hns : ns ≤ 6 := hT.2.2.1
  refine z_entry hs0 hst (by decide) (Nat.le_of_ble_eq_true rfl) (fun p e s m args below meth c => ?_)
  refine z_iconst (v := 1) d_Tb_allKeepers_0 (by decide) ?_
  refine z_aload_n 0 d_Tb_allKeepers_1 rfl rfl ?_
  refine z_get zc_Tb 0 (by decide) qF_Tb_10 hG_Tb rfl d_Tb_allKeepers_2 ?_
  refine z_callV0 (m_AL_size hs0 hst hT.kl) ym_AL_size qM_Tb_68 qI_AL_size qV_AL_AL_size zc_AL hT.kl d_Tb_allKeepers_5 rfl (Nat.le_of_ble_eq_true rfl) ⟨Nat.zero_le _, Nat.zero_le _⟩ ⟨Nat.le_of_ble_eq_true rfl, Nat.le_of_ble_eq_true rfl⟩ ?_
  refine z_ishl d_Tb_allKeepers_8 ?_
  refine z_iconst (v := 1) d_Tb_allKeepers_9 (by decide) ?_
  refine z_isub d_Tb_allKeepers_10 ?_
  exact z_iret rfl (⟨rfl, rfl⟩) (by first | decide | omega) (by first | decide | omega) d_Tb_allKeepers_11

/-- a number is a set of the first nk -/
def zsetok (nk : Nat) (x : Int32) : Bool := zin x 0 (1 <<< (nI nk &&& 31) - 1)
theorem zsetok_le {nk : Nat} {x : Int32} (hk : nk ≤ 8) (h : zsetok nk x = true) : ∃ n, n < 2 ^ nk ∧ x = nI n := by
  have key : ∀ nk, nk < 9 → (1 : Int32) <<< (nI nk &&& 31) - 1 = nI (2 ^ nk - 1) := by decide +kernel
  unfold zsetok at h
  rw [key nk (by omega)] at h
  simp only [zin, Bool.and_eq_true, decide_eq_true_eq] at h
  have hp : 2 ^ nk ≤ 256 := Nat.pow_le_pow_right (n := 2) (by decide) (show nk ≤ 8 from hk)
  have hp0 : 0 < 2 ^ nk := Nat.pow_pos (by decide)
  obtain ⟨n, hn, rfl⟩ := nI_of (x := x) (fun q => by have := h.1; simp only [Int32.lt_iff_toInt_lt, Int32.le_iff_toInt_le] at *; omega)
  exact ⟨n, by have := (nI_leI hn (by omega)).mp h.2; omega, rfl⟩


section ZTHW
variable {g0 : State} {d : zD} {y : MethodName} {cc : ByteArray} {nL : Nat} {ret : Option FieldType} {p : Program} {l : Launch} {e : Env} {R : Room} {s : State} {m : MethodId} {args : Array Value} {below : List Frame} {meth : Method} {c : Code} {cells slots : Nat} {G : zG} {L : List (Nat × Value)} {st : List Value} {pc : Nat}
/-- words that stay: the good ones, and castable, declares -/
def zgood : Cond → Bool
  | .castable _ _ => true
  | .declares _ => true
  | w => goodWord w
theorem zgood_ot {w : Cond} (h : zgood w = true) : (w.onTables || goodWord w) = true := by
  cases w <;> first | rfl | (rw [Bool.or_eq_true]; exact Or.inr h)
theorem zCx.wz {tb : List ExceptionTableEntry} (h : zCx g0 d y cc nL ret tb p l s m meth c) {w : Cond} (hw : w ∈ lw_tbl) (hg : zgood w = true) (args : Array Value) : w.before args s = true := by
  cases w with
  | castable a b => exact va_Nw.use rfl (h.cast hw)
  | declares x =>
    obtain ⟨⟨a0, h0, -⟩, -⟩ := id h
    exact va_Nw.use rfl (va_Nw.warmD h.warm (va_Nw.of rfl (h0 _ hw)))
  | _ => exact h.w hw hg args
/-- throw new E("text"), the text by a wide index -/
theorem z_thSW {post : Option Value → zG → Prop} {px : String → zG → Prop} {mc ms : Nat} {cls text : String} {names : List String} {ik is ic : Nat} (hcls : Bundle.fit cls = true) (hnames : ∀ n ∈ names, Bundle.fit n = true)
  (hk : Cond.classLink y.cls ik cls ∈ lw_tbl) (hini : Cond.initialized cls ∈ lw_tbl) (hstr : Cond.stringRef y.cls is text ∈ lw_tbl) (hat : ∀ w ∈ vx_atS y.cls ic cls names, w ∈ lw_tbl) (hot : ∀ w ∈ vx_atS y.cls ic cls names, zgood w = true)
  (d0 : decode cc pc = .ok (.new ik, 3)) (d3 : decode cc (pc + 3) = .ok (.dup, 1)) (d4 : decode cc (pc + 4) = .ok (.ldc_w is, 3)) (d7 : decode cc (pc + 7) = .ok (.invokespecial ic, 3)) (d10 : decode cc (pc + 10) = .ok (.athrow, 1))
  (hRframes : names.length + 3 < R.frames) (hRlocals : (st.map fun v => v.category).sum + (13 * (names.length + 1) + 43) ≤ R.locals) (hR : cells + 1 ≤ R.cells ∧ slots + 6 ≤ R.slots) (hp : px cls G) (h1 : cells + 1 ≤ mc) (h2 : slots + 6 ≤ ms) :
  Z g0 d y cc nL ret [] p l e R s m args below meth c (vx_MQ below (zQc g0 d post) (zXc g0 d px) args s mc ms (zA g0)) cells slots G L st pc := by
  intro hc H locs ls hP hS hl
  obtain ⟨⟨a0, h0, -, -, -, hU, hN, hT, -⟩, -⟩ := id hc
  obtain ⟨sa, hsa⟩ := hT _ _ _ hstr
  have hq : ∀ q : Nat, q < g0.heap.size → ¬ zA g0 q → s.heap[q]? = g0.heap[q]? := fun q h1 _ => hc.old.2 q h1
  refine vx_throwSW hc.x hc.b hc.st hc.own hcls hnames (hc.w hk rfl args) (hc.w hini rfl args) (vk_R.warm hc.warm hsa) (fun w hw => hc.wz (hat w hw) (hot w hw) args) ?_ (vx_Zq.moved hc.warm.alike (hU.kept hq)) (vx_Zq.moved hc.warm.alike (hN.kept hq)) hS (by rw [hc.ml]; exact hl.1) d0 d3 d4 d7 d10 (by rw [hc.tbl]; exact fun _ h => nomatch h) hRframes hRlocals hR.1 hR.2 hc.locks (fun t ha hz hk => ⟨⟨G, hp, hP.kept hk⟩, Nat.le_trans hS.1 hz, fun q h3 h4 => (hk q (Nat.lt_of_lt_of_le h3 hS.1)).trans (hS.2.1 q h3 h4)⟩) hS.2.2 h1 h2
  intro w hw
  unfold vx_ot
  rcases List.mem_cons.mp hw with rfl | hw
  · rfl
  · rcases List.mem_cons.mp hw with rfl | hw
    · rfl
    · exact zgood_ot (hot w hw)
/-- throw new E("text") -/
theorem z_thS {post : Option Value → zG → Prop} {px : String → zG → Prop} {mc ms : Nat} {cls text : String} {names : List String} {ik is ic : Nat} (hcls : Bundle.fit cls = true) (hnames : ∀ n ∈ names, Bundle.fit n = true)
  (hk : Cond.classLink y.cls ik cls ∈ lw_tbl) (hini : Cond.initialized cls ∈ lw_tbl) (hstr : Cond.stringRef y.cls is text ∈ lw_tbl) (hat : ∀ w ∈ vx_atS y.cls ic cls names, w ∈ lw_tbl) (hot : ∀ w ∈ vx_atS y.cls ic cls names, zgood w = true)
  (d0 : decode cc pc = .ok (.new ik, 3)) (d3 : decode cc (pc + 3) = .ok (.dup, 1)) (d4 : decode cc (pc + 4) = .ok (.ldc is, 2)) (d7 : decode cc (pc + 6) = .ok (.invokespecial ic, 3)) (d10 : decode cc (pc + 9) = .ok (.athrow, 1))
  (hRframes : names.length + 3 < R.frames) (hRlocals : (st.map fun v => v.category).sum + (13 * (names.length + 1) + 43) ≤ R.locals) (hR : cells + 1 ≤ R.cells ∧ slots + 6 ≤ R.slots) (hp : px cls G) (h1 : cells + 1 ≤ mc) (h2 : slots + 6 ≤ ms) :
  Z g0 d y cc nL ret [] p l e R s m args below meth c (vx_MQ below (zQc g0 d post) (zXc g0 d px) args s mc ms (zA g0)) cells slots G L st pc := by
  intro hc H locs ls hP hS hl
  obtain ⟨⟨a0, h0, -, -, -, hU, hN, hT, -⟩, -⟩ := id hc
  obtain ⟨sa, hsa⟩ := hT _ _ _ hstr
  have hq : ∀ q : Nat, q < g0.heap.size → ¬ zA g0 q → s.heap[q]? = g0.heap[q]? := fun q h1 _ => hc.old.2 q h1
  refine vx_throwS hc.x hc.b hc.st hc.own hcls hnames (hc.w hk rfl args) (hc.w hini rfl args) (vk_R.warm hc.warm hsa) (fun w hw => hc.wz (hat w hw) (hot w hw) args) ?_ (vx_Zq.moved hc.warm.alike (hU.kept hq)) (vx_Zq.moved hc.warm.alike (hN.kept hq)) hS (by rw [hc.ml]; exact hl.1) d0 d3 d4 d7 d10 (by rw [hc.tbl]; exact fun _ h => nomatch h) hRframes hRlocals hR.1 hR.2 hc.locks (fun t ha hz hk => ⟨⟨G, hp, hP.kept hk⟩, Nat.le_trans hS.1 hz, fun q h3 h4 => (hk q (Nat.lt_of_lt_of_le h3 hS.1)).trans (hS.2.1 q h3 h4)⟩) hS.2.2 h1 h2
  intro w hw
  unfold vx_ot
  rcases List.mem_cons.mp hw with rfl | hw
  · rfl
  · rcases List.mem_cons.mp hw with rfl | hw
    · rfl
    · exact zgood_ot (hot w hw)
end ZTHW
theorem th_65 : (∀ w ∈ vx_atS "Threeboxes" 65 "java/lang/IllegalArgumentException" ["java/lang/RuntimeException", "java/lang/Exception"], w ∈ lw_tbl) ∧ ∀ w ∈ vx_atS "Threeboxes" 65 "java/lang/IllegalArgumentException" ["java/lang/RuntimeException", "java/lang/Exception"], zgood w = true := ⟨by decide +kernel, by decide +kernel⟩
theorem th_76 : (∀ w ∈ vx_atS "Threeboxes" 76 "java/lang/IllegalStateException" ["java/lang/RuntimeException", "java/lang/Exception"], w ∈ lw_tbl) ∧ ∀ w ∈ vx_atS "Threeboxes" 76 "java/lang/IllegalStateException" ["java/lang/RuntimeException", "java/lang/Exception"], zgood w = true := ⟨by decide +kernel, by decide +kernel⟩
theorem th_165 : (∀ w ∈ vx_atS "Threeboxes" 165 "java/lang/IndexOutOfBoundsException" ["java/lang/RuntimeException", "java/lang/Exception"], w ∈ lw_tbl) ∧ ∀ w ∈ vx_atS "Threeboxes" 165 "java/lang/IndexOutOfBoundsException" ["java/lang/RuntimeException", "java/lang/Exception"], zgood w = true := ⟨by decide +kernel, by decide +kernel⟩
/-- how many of the first n -/
def zcnt (f : Nat → Bool) : Nat → Nat
  | 0 => 0
  | n + 1 => zcnt f n + (if f n then 1 else 0)
theorem zcnt_t {f : Nat → Bool} {n : Nat} (h : ¬ zb (f n) = 0) : nI (zcnt f n) + 1 = nI (zcnt f (n + 1)) := by
  rw [nI_1, zcnt, if_pos ((zb_n0 _).mp h)]
theorem zcnt_f {f : Nat → Bool} {n : Nat} (h : zb (f n) = 0) : nI (zcnt f n) = nI (zcnt f (n + 1)) := by
  rw [zcnt, if_neg (by rw [(zb_0 _).mp h]; decide)]; rfl
/-- the sum of the first n -/
def zsum (f : Nat → Int32) : Nat → Int32
  | 0 => nI 0
  | n + 1 => zsum f n + f n

theorem d_Tb_needSet_0 : decode c_Tb_needSet 0 = .ok (.iload_n 1, 1) := by decide +kernel
theorem d_Tb_needSet_1 : decode c_Tb_needSet 1 = .ok (.iconst 0, 1) := by decide +kernel
theorem d_Tb_needSet_2 : decode c_Tb_needSet 2 = .ok (.aload_n 0, 1) := by decide +kernel
theorem d_Tb_needSet_3 : decode c_Tb_needSet 3 = .ok (.invokevirtual 329, 3) := by decide +kernel
theorem d_Tb_needSet_6 : decode c_Tb_needSet 6 = .ok (.invokestatic 57, 3) := by decide +kernel
theorem d_Tb_needSet_9 : decode c_Tb_needSet 9 = .ok (.ifCond .ne 14, 3) := by decide +kernel
theorem d_Tb_needSet_12 : decode c_Tb_needSet 12 = .ok (.new 61, 3) := by decide +kernel
theorem d_Tb_needSet_15 : decode c_Tb_needSet 15 = .ok (.dup, 1) := by decide +kernel
theorem d_Tb_needSet_16 : decode c_Tb_needSet 16 = .ok (.ldc_w 334, 3) := by decide +kernel
theorem d_Tb_needSet_19 : decode c_Tb_needSet 19 = .ok (.invokespecial 65, 3) := by decide +kernel
theorem d_Tb_needSet_22 : decode c_Tb_needSet 22 = .ok (.athrow, 1) := by decide +kernel
theorem d_Tb_needSet_23 : decode c_Tb_needSet 23 = .ok (.return_, 1) := by decide +kernel
set_option maxHeartbeats 4000000 in
set_option maxRecDepth 100000 in
theorem m_Tb_needSet {g0 : State} {d : zD} {l : Launch} {a0 : Array Value} (hs0 : zS0 d a0 g0) (hst : l.stackTraces = false) {G : zG} {A : Nat → Nat} {D : Nat → UInt64} {V : Nat → Nat → Int32} {nk ns : Nat} (hT : zT d A D V nk ns G) (x : Int32) : zMet g0 d l y_Tb_needSet c_Tb_needSet 2 ((Option.none : Option Jvm.ClassFile.FieldType)) 8 1 6 [.ref (A 0), .int x] (G) (fun r G1 => zsetok nk x = true ∧ r = none ∧ G1 = G) (fun E G1 => zsetok nk x = false ∧ E = "java/lang/IllegalArgumentException" ∧ G1 = G) := by
  have hG_Tb := hT.tb
  have hnk : nk ≤ 8 := hT.2.1
  have hns : ns ≤ 6 := hT.2.2.1
  refine z_entry hs0 hst (by decide) (Nat.le_of_ble_eq_true rfl) (fun p e s m args below meth c => ?_)
  refine z_iload_n 1 d_Tb_needSet_0 rfl rfl ?_
  refine z_iconst (v := 0) d_Tb_needSet_1 (by decide) ?_
  refine z_aload_n 0 d_Tb_needSet_2 rfl rfl ?_
  refine z_callV0 (m_Tb_allKeepers hs0 hst hT) ym_Tb_allKeepers qM_Tb_329 qI_Tb_allKeepers qV_Tb_Tb_allKeepers zc_Tb hG_Tb d_Tb_needSet_3 rfl (Nat.le_of_ble_eq_true rfl) ⟨by decide, by decide⟩ ⟨Nat.le_of_ble_eq_true rfl, Nat.le_of_ble_eq_true rfl⟩ ?_
  refine z_callS0 (m_Tb_isFrom hs0 hst x 0 _) ym_Tb_isFrom qM_Tb_57 qS_Tb_isFrom d_Tb_needSet_6 rfl (Nat.le_of_ble_eq_true rfl) ⟨by decide, by decide⟩ ⟨Nat.le_of_ble_eq_true rfl, Nat.le_of_ble_eq_true rfl⟩ ?_
  refine z_if_ne 23 d_Tb_needSet_9 (by decide) (fun c_9 => ?_) (fun c_9 => ?_)
  · skip
    exact z_vret rfl (⟨(zb_n0 _).mp c_9, rfl, rfl⟩) (by first | decide | omega) (by first | decide | omega) d_Tb_needSet_23
  · skip
    exact z_thSW (names := ["java/lang/RuntimeException", "java/lang/Exception"]) (by decide) (by decide) qK_Tb_61 qN_IAE qR_Tb_334 th_65.1 th_65.2 d_Tb_needSet_12 d_Tb_needSet_15 d_Tb_needSet_16 d_Tb_needSet_19 d_Tb_needSet_22 (by decide) (Nat.le_of_ble_eq_true rfl) ⟨by decide, by decide⟩ (⟨(zb_0 _).mp c_9, rfl, rfl⟩) (by decide) (by decide)
theorem d_Tb_keeperAt_0 : decode c_Tb_keeperAt 0 = .ok (.iload_n 1, 1) := by decide +kernel
theorem d_Tb_keeperAt_1 : decode c_Tb_keeperAt 1 = .ok (.ifCond .lt 14, 3) := by decide +kernel
theorem d_Tb_keeperAt_4 : decode c_Tb_keeperAt 4 = .ok (.iload_n 1, 1) := by decide +kernel
theorem d_Tb_keeperAt_5 : decode c_Tb_keeperAt 5 = .ok (.aload_n 0, 1) := by decide +kernel
theorem d_Tb_keeperAt_6 : decode c_Tb_keeperAt 6 = .ok (.getfield 10, 3) := by decide +kernel
theorem d_Tb_keeperAt_9 : decode c_Tb_keeperAt 9 = .ok (.invokevirtual 68, 3) := by decide +kernel
theorem d_Tb_keeperAt_12 : decode c_Tb_keeperAt 12 = .ok (.if_icmp .lt 14, 3) := by decide +kernel
theorem d_Tb_keeperAt_15 : decode c_Tb_keeperAt 15 = .ok (.new 161, 3) := by decide +kernel
theorem d_Tb_keeperAt_18 : decode c_Tb_keeperAt 18 = .ok (.dup, 1) := by decide +kernel
theorem d_Tb_keeperAt_19 : decode c_Tb_keeperAt 19 = .ok (.ldc_w 338, 3) := by decide +kernel
theorem d_Tb_keeperAt_22 : decode c_Tb_keeperAt 22 = .ok (.invokespecial 165, 3) := by decide +kernel
theorem d_Tb_keeperAt_25 : decode c_Tb_keeperAt 25 = .ok (.athrow, 1) := by decide +kernel
theorem d_Tb_keeperAt_26 : decode c_Tb_keeperAt 26 = .ok (.aload_n 0, 1) := by decide +kernel
theorem d_Tb_keeperAt_27 : decode c_Tb_keeperAt 27 = .ok (.getfield 10, 3) := by decide +kernel
theorem d_Tb_keeperAt_30 : decode c_Tb_keeperAt 30 = .ok (.iload_n 1, 1) := by decide +kernel
theorem d_Tb_keeperAt_31 : decode c_Tb_keeperAt 31 = .ok (.invokevirtual 166, 3) := by decide +kernel
theorem d_Tb_keeperAt_34 : decode c_Tb_keeperAt 34 = .ok (.checkcast 77, 3) := by decide +kernel
theorem d_Tb_keeperAt_37 : decode c_Tb_keeperAt 37 = .ok (.areturn, 1) := by decide +kernel
set_option maxHeartbeats 4000000 in
set_option maxRecDepth 100000 in
theorem m_Tb_keeperAt {g0 : State} {d : zD} {l : Launch} {a0 : Array Value} (hs0 : zS0 d a0 g0) (hst : l.stackTraces = false) {G : zG} {A : Nat → Nat} {D : Nat → UInt64} {V : Nat → Nat → Int32} {nk ns : Nat} (hT : zT d A D V nk ns G) (x : Int32) : zMet g0 d l y_Tb_keeperAt c_Tb_keeperAt 2 ((Option.some (Jvm.ClassFile.FieldType.object "Threeboxes$Keeper"))) 11 1 6 [.ref (A 0), .int x] (G) (fun r G1 => ∃ k, k < nk ∧ x = nI k ∧ r = some (.ref (A (100 + k))) ∧ G1 = G) (fun E G1 => (x < 0 ∨ nI nk ≤ x) ∧ E = "java/lang/IndexOutOfBoundsException" ∧ G1 = G) := by
  have hG_Tb := hT.tb
  have hnk : nk ≤ 8 := hT.2.1
  have hns : ns ≤ 6 := hT.2.2.1
  refine z_entry hs0 hst (by decide) (Nat.le_of_ble_eq_true rfl) (fun p e s m args below meth c => ?_)
  refine z_iload_n 1 d_Tb_keeperAt_0 rfl rfl ?_
  refine z_if_lt 15 d_Tb_keeperAt_1 (by decide) (fun c_1 => ?_) (fun c_1 => ?_)
  · skip
    exact z_thSW (names := ["java/lang/RuntimeException", "java/lang/Exception"]) (by decide) (by decide) qK_Tb_161 qN_IOE qR_Tb_338 th_165.1 th_165.2 d_Tb_keeperAt_15 d_Tb_keeperAt_18 d_Tb_keeperAt_19 d_Tb_keeperAt_22 d_Tb_keeperAt_25 (by decide) (Nat.le_of_ble_eq_true rfl) ⟨by decide, by decide⟩ (⟨by first | exact Or.inl c_1 | exact Or.inr (Int32.not_lt.mp c_12), rfl, rfl⟩) (by decide) (by decide)
  · skip
    refine z_iload_n 1 d_Tb_keeperAt_4 rfl rfl ?_
    refine z_aload_n 0 d_Tb_keeperAt_5 rfl rfl ?_
    refine z_get zc_Tb 0 (by decide) qF_Tb_10 hG_Tb rfl d_Tb_keeperAt_6 ?_
    refine z_callV0 (m_AL_size hs0 hst hT.kl) ym_AL_size qM_Tb_68 qI_AL_size qV_AL_AL_size zc_AL hT.kl d_Tb_keeperAt_9 rfl (Nat.le_of_ble_eq_true rfl) ⟨by decide, by decide⟩ ⟨Nat.le_of_ble_eq_true rfl, Nat.le_of_ble_eq_true rfl⟩ ?_
    refine z_icmp_lt 26 d_Tb_keeperAt_12 (by decide) (fun c_12 => ?_) (fun c_12 => ?_)
    · skip
      obtain ⟨k, hk31, rfl⟩ := nI_of c_1
      have hk : k < nk := (nI_ltI hk31 (by omega)).mp c_12
      refine z_aload_n 0 d_Tb_keeperAt_26 rfl rfl ?_
      refine z_get zc_Tb 0 (by decide) qF_Tb_10 hG_Tb rfl d_Tb_keeperAt_27 ?_
      refine z_iload_n 1 d_Tb_keeperAt_30 rfl rfl ?_
      refine z_callV0 (m_AL_get hs0 hst (hT.kA hk) hk (if_pos hk)) ym_AL_get qM_Tb_166 qI_AL_get qV_AL_AL_get zc_AL (hT.kA hk).1 d_Tb_keeperAt_31 rfl (Nat.le_of_ble_eq_true rfl) ⟨by decide, by decide⟩ ⟨Nat.le_of_ble_eq_true rfl, Nat.le_of_ble_eq_true rfl⟩ ?_
      refine z_castS zc_Ke qK_Tb_77 (hT.ke hk) d_Tb_keeperAt_34 ?_
      exact z_aret rfl (Or.inl ⟨_, rfl⟩) (Or.inr ⟨_, rfl⟩) (⟨k, hk, rfl, rfl, rfl⟩) (by first | decide | omega) (by first | decide | omega) d_Tb_keeperAt_37
    · skip
      exact z_thSW (names := ["java/lang/RuntimeException", "java/lang/Exception"]) (by decide) (by decide) qK_Tb_161 qN_IOE qR_Tb_338 th_165.1 th_165.2 d_Tb_keeperAt_15 d_Tb_keeperAt_18 d_Tb_keeperAt_19 d_Tb_keeperAt_22 d_Tb_keeperAt_25 (by decide) (Nat.le_of_ble_eq_true rfl) ⟨by decide, by decide⟩ (⟨by first | exact Or.inl c_1 | exact Or.inr (Int32.not_lt.mp c_12), rfl, rfl⟩) (by decide) (by decide)
theorem d_Tb_secretAt_0 : decode c_Tb_secretAt 0 = .ok (.iload_n 1, 1) := by decide +kernel
theorem d_Tb_secretAt_1 : decode c_Tb_secretAt 1 = .ok (.ifCond .lt 14, 3) := by decide +kernel
theorem d_Tb_secretAt_4 : decode c_Tb_secretAt 4 = .ok (.iload_n 1, 1) := by decide +kernel
theorem d_Tb_secretAt_5 : decode c_Tb_secretAt 5 = .ok (.aload_n 0, 1) := by decide +kernel
theorem d_Tb_secretAt_6 : decode c_Tb_secretAt 6 = .ok (.getfield 16, 3) := by decide +kernel
theorem d_Tb_secretAt_9 : decode c_Tb_secretAt 9 = .ok (.invokevirtual 68, 3) := by decide +kernel
theorem d_Tb_secretAt_12 : decode c_Tb_secretAt 12 = .ok (.if_icmp .lt 14, 3) := by decide +kernel
theorem d_Tb_secretAt_15 : decode c_Tb_secretAt 15 = .ok (.new 161, 3) := by decide +kernel
theorem d_Tb_secretAt_18 : decode c_Tb_secretAt 18 = .ok (.dup, 1) := by decide +kernel
theorem d_Tb_secretAt_19 : decode c_Tb_secretAt 19 = .ok (.ldc_w 340, 3) := by decide +kernel
theorem d_Tb_secretAt_22 : decode c_Tb_secretAt 22 = .ok (.invokespecial 165, 3) := by decide +kernel
theorem d_Tb_secretAt_25 : decode c_Tb_secretAt 25 = .ok (.athrow, 1) := by decide +kernel
theorem d_Tb_secretAt_26 : decode c_Tb_secretAt 26 = .ok (.aload_n 0, 1) := by decide +kernel
theorem d_Tb_secretAt_27 : decode c_Tb_secretAt 27 = .ok (.getfield 16, 3) := by decide +kernel
theorem d_Tb_secretAt_30 : decode c_Tb_secretAt 30 = .ok (.iload_n 1, 1) := by decide +kernel
theorem d_Tb_secretAt_31 : decode c_Tb_secretAt 31 = .ok (.invokevirtual 166, 3) := by decide +kernel
theorem d_Tb_secretAt_34 : decode c_Tb_secretAt 34 = .ok (.checkcast 115, 3) := by decide +kernel
theorem d_Tb_secretAt_37 : decode c_Tb_secretAt 37 = .ok (.areturn, 1) := by decide +kernel
set_option maxHeartbeats 4000000 in
set_option maxRecDepth 100000 in
theorem m_Tb_secretAt {g0 : State} {d : zD} {l : Launch} {a0 : Array Value} (hs0 : zS0 d a0 g0) (hst : l.stackTraces = false) {G : zG} {A : Nat → Nat} {D : Nat → UInt64} {V : Nat → Nat → Int32} {nk ns : Nat} (hT : zT d A D V nk ns G) (x : Int32) : zMet g0 d l y_Tb_secretAt c_Tb_secretAt 2 ((Option.some (Jvm.ClassFile.FieldType.object "Threeboxes$Secret"))) 11 1 6 [.ref (A 0), .int x] (G) (fun r G1 => ∃ k, k < ns ∧ x = nI k ∧ r = some (.ref (A (200 + k))) ∧ G1 = G) (fun E G1 => (x < 0 ∨ nI ns ≤ x) ∧ E = "java/lang/IndexOutOfBoundsException" ∧ G1 = G) := by
  have hG_Tb := hT.tb
  have hnk : nk ≤ 8 := hT.2.1
  have hns : ns ≤ 6 := hT.2.2.1
  refine z_entry hs0 hst (by decide) (Nat.le_of_ble_eq_true rfl) (fun p e s m args below meth c => ?_)
  refine z_iload_n 1 d_Tb_secretAt_0 rfl rfl ?_
  refine z_if_lt 15 d_Tb_secretAt_1 (by decide) (fun c_1 => ?_) (fun c_1 => ?_)
  · skip
    exact z_thSW (names := ["java/lang/RuntimeException", "java/lang/Exception"]) (by decide) (by decide) qK_Tb_161 qN_IOE qR_Tb_340 th_165.1 th_165.2 d_Tb_secretAt_15 d_Tb_secretAt_18 d_Tb_secretAt_19 d_Tb_secretAt_22 d_Tb_secretAt_25 (by decide) (Nat.le_of_ble_eq_true rfl) ⟨by decide, by decide⟩ (⟨by first | exact Or.inl c_1 | exact Or.inr (Int32.not_lt.mp c_12), rfl, rfl⟩) (by decide) (by decide)
  · skip
    refine z_iload_n 1 d_Tb_secretAt_4 rfl rfl ?_
    refine z_aload_n 0 d_Tb_secretAt_5 rfl rfl ?_
    refine z_get zc_Tb 1 (by decide) qF_Tb_16 hG_Tb rfl d_Tb_secretAt_6 ?_
    refine z_callV0 (m_AL_size hs0 hst hT.sl) ym_AL_size qM_Tb_68 qI_AL_size qV_AL_AL_size zc_AL hT.sl d_Tb_secretAt_9 rfl (Nat.le_of_ble_eq_true rfl) ⟨by decide, by decide⟩ ⟨Nat.le_of_ble_eq_true rfl, Nat.le_of_ble_eq_true rfl⟩ ?_
    refine z_icmp_lt 26 d_Tb_secretAt_12 (by decide) (fun c_12 => ?_) (fun c_12 => ?_)
    · skip
      obtain ⟨k, hk31, rfl⟩ := nI_of c_1
      have hk : k < ns := (nI_ltI hk31 (by omega)).mp c_12
      refine z_aload_n 0 d_Tb_secretAt_26 rfl rfl ?_
      refine z_get zc_Tb 1 (by decide) qF_Tb_16 hG_Tb rfl d_Tb_secretAt_27 ?_
      refine z_iload_n 1 d_Tb_secretAt_30 rfl rfl ?_
      refine z_callV0 (m_AL_get hs0 hst (hT.sA hk) hk (if_pos hk)) ym_AL_get qM_Tb_166 qI_AL_get qV_AL_AL_get zc_AL (hT.sA hk).1 d_Tb_secretAt_31 rfl (Nat.le_of_ble_eq_true rfl) ⟨by decide, by decide⟩ ⟨Nat.le_of_ble_eq_true rfl, Nat.le_of_ble_eq_true rfl⟩ ?_
      refine z_castS zc_Se qK_Tb_115 (hT.se hk).1 d_Tb_secretAt_34 ?_
      exact z_aret rfl (Or.inl ⟨_, rfl⟩) (Or.inr ⟨_, rfl⟩) (⟨k, hk, rfl, rfl, rfl⟩) (by first | decide | omega) (by first | decide | omega) d_Tb_secretAt_37
    · skip
      exact z_thSW (names := ["java/lang/RuntimeException", "java/lang/Exception"]) (by decide) (by decide) qK_Tb_161 qN_IOE qR_Tb_340 th_165.1 th_165.2 d_Tb_secretAt_15 d_Tb_secretAt_18 d_Tb_secretAt_19 d_Tb_secretAt_22 d_Tb_secretAt_25 (by decide) (Nat.le_of_ble_eq_true rfl) ⟨by decide, by decide⟩ (⟨by first | exact Or.inl c_1 | exact Or.inr (Int32.not_lt.mp c_12), rfl, rfl⟩) (by decide) (by decide)
theorem d_Re_size_0 : decode c_Re_size 0 = .ok (.aload_n 0, 1) := by decide +kernel
theorem d_Re_size_1 : decode c_Re_size 1 = .ok (.getfield 24, 3) := by decide +kernel
theorem d_Re_size_4 : decode c_Re_size 4 = .ok (.ireturn, 1) := by decide +kernel
set_option maxHeartbeats 4000000 in
set_option maxRecDepth 100000 in
theorem m_Re_size {g0 : State} {d : zD} {l : Launch} {a0 : Array Value} (hs0 : zS0 d a0 g0) (hst : l.stackTraces = false) {G : zG} {h : Nat} {w1 w2 w3 w4 : Value} {x : Int32} (hG_Re : G h = some (zob 6 [w1, w2, w3, w4, .int x])) : zMet g0 d l y_Re_size c_Re_size 1 ((Option.some Jvm.ClassFile.FieldType.int)) 1 0 0 [.ref h] (G) (zEq (some (.int x)) G) (zNo) := by
  refine z_entry hs0 hst (by decide) (Nat.le_of_ble_eq_true rfl) (fun p e s m args below meth c => ?_)
  refine z_aload_n 0 d_Re_size_0 rfl rfl ?_
  refine z_get zc_Re 4 (by decide) qF_Re_24 hG_Re rfl d_Re_size_1 ?_
  exact z_iret rfl (⟨rfl, rfl⟩) (by first | decide | omega) (by first | decide | omega) d_Re_size_4
theorem d_Tb_needEntry_0 : decode c_Tb_needEntry 0 = .ok (.iload_n 1, 1) := by decide +kernel
theorem d_Tb_needEntry_1 : decode c_Tb_needEntry 1 = .ok (.iconst 0, 1) := by decide +kernel
theorem d_Tb_needEntry_2 : decode c_Tb_needEntry 2 = .ok (.aload_n 0, 1) := by decide +kernel
theorem d_Tb_needEntry_3 : decode c_Tb_needEntry 3 = .ok (.getfield 22, 3) := by decide +kernel
theorem d_Tb_needEntry_6 : decode c_Tb_needEntry 6 = .ok (.invokevirtual 322, 3) := by decide +kernel
theorem d_Tb_needEntry_9 : decode c_Tb_needEntry 9 = .ok (.iconst 1, 1) := by decide +kernel
theorem d_Tb_needEntry_10 : decode c_Tb_needEntry 10 = .ok (.isub, 1) := by decide +kernel
theorem d_Tb_needEntry_11 : decode c_Tb_needEntry 11 = .ok (.invokestatic 57, 3) := by decide +kernel
theorem d_Tb_needEntry_14 : decode c_Tb_needEntry 14 = .ok (.ifCond .ne 14, 3) := by decide +kernel
theorem d_Tb_needEntry_17 : decode c_Tb_needEntry 17 = .ok (.new 161, 3) := by decide +kernel
theorem d_Tb_needEntry_20 : decode c_Tb_needEntry 20 = .ok (.dup, 1) := by decide +kernel
theorem d_Tb_needEntry_21 : decode c_Tb_needEntry 21 = .ok (.ldc_w 336, 3) := by decide +kernel
theorem d_Tb_needEntry_24 : decode c_Tb_needEntry 24 = .ok (.invokespecial 165, 3) := by decide +kernel
theorem d_Tb_needEntry_27 : decode c_Tb_needEntry 27 = .ok (.athrow, 1) := by decide +kernel
theorem d_Tb_needEntry_28 : decode c_Tb_needEntry 28 = .ok (.return_, 1) := by decide +kernel
set_option maxHeartbeats 4000000 in
set_option maxRecDepth 100000 in
theorem m_Tb_needEntry {g0 : State} {d : zD} {l : Launch} {a0 : Array Value} (hs0 : zS0 d a0 g0) (hst : l.stackTraces = false) {G : zG} {A : Nat → Nat} {D : Nat → UInt64} {V : Nat → Nat → Int32} {nk ns : Nat} (hT : zT d A D V nk ns G) (x : Int32) : zMet g0 d l y_Tb_needEntry c_Tb_needEntry 2 ((Option.none : Option Jvm.ClassFile.FieldType)) 8 1 6 [.ref (A 0), .int x] (G) (fun r G1 => zin x 0 (V 5 0 - 1) = true ∧ r = none ∧ G1 = G) (fun E G1 => zin x 0 (V 5 0 - 1) = false ∧ E = "java/lang/IndexOutOfBoundsException" ∧ G1 = G) := by
  have hG_Tb := hT.tb
  have hnk : nk ≤ 8 := hT.2.1
  have hns : ns ≤ 6 := hT.2.2.1
  refine z_entry hs0 hst (by decide) (Nat.le_of_ble_eq_true rfl) (fun p e s m args below meth c => ?_)
  refine z_iload_n 1 d_Tb_needEntry_0 rfl rfl ?_
  refine z_iconst (v := 0) d_Tb_needEntry_1 (by decide) ?_
  refine z_aload_n 0 d_Tb_needEntry_2 rfl rfl ?_
  refine z_get zc_Tb 2 (by decide) qF_Tb_22 hG_Tb rfl d_Tb_needEntry_3 ?_
  refine z_callV0 (m_Re_size hs0 hst hT.re) ym_Re_size qM_Tb_322 qI_Re_size qV_Re_Re_size zc_Re hT.re d_Tb_needEntry_6 rfl (Nat.le_of_ble_eq_true rfl) ⟨by decide, by decide⟩ ⟨Nat.le_of_ble_eq_true rfl, Nat.le_of_ble_eq_true rfl⟩ ?_
  refine z_iconst (v := 1) d_Tb_needEntry_9 (by decide) ?_
  refine z_isub d_Tb_needEntry_10 ?_
  refine z_callS0 (m_Tb_isFrom hs0 hst x 0 _) ym_Tb_isFrom qM_Tb_57 qS_Tb_isFrom d_Tb_needEntry_11 rfl (Nat.le_of_ble_eq_true rfl) ⟨by decide, by decide⟩ ⟨Nat.le_of_ble_eq_true rfl, Nat.le_of_ble_eq_true rfl⟩ ?_
  refine z_if_ne 28 d_Tb_needEntry_14 (by decide) (fun c_14 => ?_) (fun c_14 => ?_)
  · skip
    exact z_vret rfl (⟨(zb_n0 _).mp c_14, rfl, rfl⟩) (by first | decide | omega) (by first | decide | omega) d_Tb_needEntry_28
  · skip
    exact z_thSW (names := ["java/lang/RuntimeException", "java/lang/Exception"]) (by decide) (by decide) qK_Tb_161 qN_IOE qR_Tb_336 th_165.1 th_165.2 d_Tb_needEntry_17 d_Tb_needEntry_20 d_Tb_needEntry_21 d_Tb_needEntry_24 d_Tb_needEntry_27 (by decide) (Nat.le_of_ble_eq_true rfl) ⟨by decide, by decide⟩ (⟨(zb_0 _).mp c_14, rfl, rfl⟩) (by decide) (by decide)
theorem d_Tb_sharesOf_0 : decode c_Tb_sharesOf 0 = .ok (.iconst 0, 1) := by decide +kernel
theorem d_Tb_sharesOf_1 : decode c_Tb_sharesOf 1 = .ok (.istore_n 2, 1) := by decide +kernel
theorem d_Tb_sharesOf_2 : decode c_Tb_sharesOf 2 = .ok (.iconst 0, 1) := by decide +kernel
theorem d_Tb_sharesOf_3 : decode c_Tb_sharesOf 3 = .ok (.istore_n 3, 1) := by decide +kernel
theorem d_Tb_sharesOf_4 : decode c_Tb_sharesOf 4 = .ok (.iload_n 3, 1) := by decide +kernel
theorem d_Tb_sharesOf_5 : decode c_Tb_sharesOf 5 = .ok (.aload_n 0, 1) := by decide +kernel
theorem d_Tb_sharesOf_6 : decode c_Tb_sharesOf 6 = .ok (.getfield 16, 3) := by decide +kernel
theorem d_Tb_sharesOf_9 : decode c_Tb_sharesOf 9 = .ok (.invokevirtual 68, 3) := by decide +kernel
theorem d_Tb_sharesOf_12 : decode c_Tb_sharesOf 12 = .ok (.if_icmp .ge 30, 3) := by decide +kernel
theorem d_Tb_sharesOf_15 : decode c_Tb_sharesOf 15 = .ok (.aload_n 0, 1) := by decide +kernel
theorem d_Tb_sharesOf_16 : decode c_Tb_sharesOf 16 = .ok (.getfield 16, 3) := by decide +kernel
theorem d_Tb_sharesOf_19 : decode c_Tb_sharesOf 19 = .ok (.iload_n 3, 1) := by decide +kernel
theorem d_Tb_sharesOf_20 : decode c_Tb_sharesOf 20 = .ok (.invokevirtual 166, 3) := by decide +kernel
theorem d_Tb_sharesOf_23 : decode c_Tb_sharesOf 23 = .ok (.checkcast 115, 3) := by decide +kernel
theorem d_Tb_sharesOf_26 : decode c_Tb_sharesOf 26 = .ok (.iload_n 1, 1) := by decide +kernel
theorem d_Tb_sharesOf_27 : decode c_Tb_sharesOf 27 = .ok (.invokevirtual 270, 3) := by decide +kernel
theorem d_Tb_sharesOf_30 : decode c_Tb_sharesOf 30 = .ok (.ifCond .eq 6, 3) := by decide +kernel
theorem d_Tb_sharesOf_33 : decode c_Tb_sharesOf 33 = .ok (.iinc 2 1, 3) := by decide +kernel
theorem d_Tb_sharesOf_36 : decode c_Tb_sharesOf 36 = .ok (.iinc 3 1, 3) := by decide +kernel
theorem d_Tb_sharesOf_39 : decode c_Tb_sharesOf 39 = .ok (.goto (-35), 3) := by decide +kernel
theorem d_Tb_sharesOf_42 : decode c_Tb_sharesOf 42 = .ok (.iload_n 2, 1) := by decide +kernel
theorem d_Tb_sharesOf_43 : decode c_Tb_sharesOf 43 = .ok (.ireturn, 1) := by decide +kernel
set_option maxHeartbeats 4000000 in
set_option maxRecDepth 100000 in
theorem m_Tb_sharesOf {g0 : State} {d : zD} {l : Launch} {a0 : Array Value} (hs0 : zS0 d a0 g0) (hst : l.stackTraces = false) {G : zG} {A : Nat → Nat} {D : Nat → UInt64} {V : Nat → Nat → Int32} {nk ns : Nat} (hT : zT d A D V nk ns G) {j : Nat} (hj : j < 8) : zMet g0 d l y_Tb_sharesOf c_Tb_sharesOf 4 ((Option.some Jvm.ClassFile.FieldType.int)) 11 0 0 [.ref (A 0), .int (nI j)] (G) (zEq (some (.int (nI (zcnt (fun i => decide (V (400 + i) j ≠ -1)) ns)))) G) (zNo) := by
  have hG_Tb := hT.tb
  have hnk : nk ≤ 8 := hT.2.1
  have hns : ns ≤ 6 := hT.2.2.1
  refine z_entry hs0 hst (by decide) (Nat.le_of_ble_eq_true rfl) (fun p e s m args below meth c => ?_)
  refine z_iconst (v := (nI 0)) d_Tb_sharesOf_0 (by decide) ?_
  refine z_istore_n (L' := [(2, _), (0, _), (1, _)]) d_Tb_sharesOf_1 rfl (by decide) rfl ?_
  refine z_iconst (v := (nI 0)) d_Tb_sharesOf_2 (by decide) ?_
  refine z_istore_n (L' := [(3, _), (2, _), (0, _), (1, _)]) d_Tb_sharesOf_3 rfl (by decide) rfl ?_
  have key_4 : ∀ (n : Nat) (i : Nat), ns - i < n → (i ≤ ns) → Z g0 d y_Tb_sharesOf c_Tb_sharesOf 4 ((Option.some Jvm.ClassFile.FieldType.int)) [] p l e (zR 11 0 0) s m args below meth c (vx_MQ below (zQc g0 d (zEq (some (.int (nI (zcnt (fun i => decide (V (400 + i) j ≠ -1)) ns)))) G)) (zXc g0 d (zNo)) args s 0 0 (zA g0)) 0 0 (G) [(3, .int (nI i)), (2, .int (nI (zcnt (fun i => decide (V (400 + i) j ≠ -1)) i))), (0, .ref (A 0)), (1, .int (nI j))] [] 4 := by
    intro n
    induction n with
    | zero => intro i h0; exact absurd h0 (Nat.not_lt_zero _)
    | succ n ih_4 =>
      intro i hm_4 hi
      refine z_iload_n 0 d_Tb_sharesOf_4 rfl rfl ?_
      refine z_aload_n 2 d_Tb_sharesOf_5 rfl rfl ?_
      refine z_get zc_Tb 1 (by decide) qF_Tb_16 hG_Tb rfl d_Tb_sharesOf_6 ?_
      refine z_callV0 (m_AL_size hs0 hst hT.sl) ym_AL_size qM_Tb_68 qI_AL_size qV_AL_AL_size zc_AL hT.sl d_Tb_sharesOf_9 rfl (Nat.le_of_ble_eq_true rfl) ⟨Nat.zero_le _, Nat.zero_le _⟩ ⟨Nat.le_of_ble_eq_true rfl, Nat.le_of_ble_eq_true rfl⟩ ?_
      refine z_icmp_ge 42 d_Tb_sharesOf_12 (by decide) (fun c_12 => ?_) (fun c_12 => ?_)
      · skip
        obtain rfl : i = ns := by
          have := (nI_leI (by omega) (by omega)).mp c_12
          omega
        refine z_iload_n 1 d_Tb_sharesOf_42 rfl rfl ?_
        exact z_iret rfl (⟨rfl, rfl⟩) (by first | decide | omega) (by first | decide | omega) d_Tb_sharesOf_43
      · skip
        have hi6 : i < ns := Nat.lt_of_not_le fun q => c_12 (nI_le q (by omega))
        refine z_aload_n 2 d_Tb_sharesOf_15 rfl rfl ?_
        refine z_get zc_Tb 1 (by decide) qF_Tb_16 hG_Tb rfl d_Tb_sharesOf_16 ?_
        refine z_iload_n 0 d_Tb_sharesOf_19 rfl rfl ?_
        refine z_callV0 (m_AL_get hs0 hst (hT.sA hi6) hi6 (if_pos hi6)) ym_AL_get qM_Tb_166 qI_AL_get qV_AL_AL_get zc_AL (hT.sA hi6).1 d_Tb_sharesOf_20 rfl (Nat.le_of_ble_eq_true rfl) ⟨Nat.zero_le _, Nat.zero_le _⟩ ⟨Nat.le_of_ble_eq_true rfl, Nat.le_of_ble_eq_true rfl⟩ ?_
        refine z_castS zc_Se qK_Tb_115 (hT.se hi6).1 d_Tb_sharesOf_23 ?_
        refine z_iload_n 3 d_Tb_sharesOf_26 rfl rfl ?_
        refine z_callV0 (m_Se_has hs0 hst (hT.se hi6) hj) ym_Se_has qM_Tb_270 qI_Se_has qV_Se_Se_has zc_Se (hT.se hi6).1 d_Tb_sharesOf_27 rfl (Nat.le_of_ble_eq_true rfl) ⟨Nat.zero_le _, Nat.zero_le _⟩ ⟨Nat.le_of_ble_eq_true rfl, Nat.le_of_ble_eq_true rfl⟩ ?_
        refine z_if_eq 36 d_Tb_sharesOf_30 (by decide) (fun c_30 => ?_) (fun c_30 => ?_)
        · skip
          rw [zcnt_f (f := fun i => decide (V (400 + i) j ≠ -1)) c_30]
          refine z_iinc (v := nI (i + 1)) (L' := [(3, _), (2, _), (0, _), (1, _)]) 0 d_Tb_sharesOf_36 rfl (nI_1 i) (by decide) rfl ?_
          refine z_goto 4 d_Tb_sharesOf_39 (by decide) ?_
          exact ih_4 (i + 1) (by omega) (by omega)
        · skip
          refine z_iinc (v := _) (L' := [(2, _), (3, _), (0, _), (1, _)]) 1 d_Tb_sharesOf_33 rfl (zcnt_t (f := fun i => decide (V (400 + i) j ≠ -1)) c_30) (by decide) rfl ?_
          refine z_iinc (v := nI (i + 1)) (L' := [(3, _), (2, _), (0, _), (1, _)]) 1 d_Tb_sharesOf_36 rfl (nI_1 i) (by decide) rfl ?_
          refine z_goto 4 d_Tb_sharesOf_39 (by decide) ?_
          exact ih_4 (i + 1) (by omega) (by omega)
  exact key_4 (ns + 1) 0 (by omega) (by omega)
theorem d_Tb_staleSharesOf_0 : decode c_Tb_staleSharesOf 0 = .ok (.iconst 0, 1) := by decide +kernel
theorem d_Tb_staleSharesOf_1 : decode c_Tb_staleSharesOf 1 = .ok (.istore_n 2, 1) := by decide +kernel
theorem d_Tb_staleSharesOf_2 : decode c_Tb_staleSharesOf 2 = .ok (.iconst 0, 1) := by decide +kernel
theorem d_Tb_staleSharesOf_3 : decode c_Tb_staleSharesOf 3 = .ok (.istore_n 3, 1) := by decide +kernel
theorem d_Tb_staleSharesOf_4 : decode c_Tb_staleSharesOf 4 = .ok (.iload_n 3, 1) := by decide +kernel
theorem d_Tb_staleSharesOf_5 : decode c_Tb_staleSharesOf 5 = .ok (.aload_n 0, 1) := by decide +kernel
theorem d_Tb_staleSharesOf_6 : decode c_Tb_staleSharesOf 6 = .ok (.getfield 16, 3) := by decide +kernel
theorem d_Tb_staleSharesOf_9 : decode c_Tb_staleSharesOf 9 = .ok (.invokevirtual 68, 3) := by decide +kernel
theorem d_Tb_staleSharesOf_12 : decode c_Tb_staleSharesOf 12 = .ok (.if_icmp .ge 30, 3) := by decide +kernel
theorem d_Tb_staleSharesOf_15 : decode c_Tb_staleSharesOf 15 = .ok (.aload_n 0, 1) := by decide +kernel
theorem d_Tb_staleSharesOf_16 : decode c_Tb_staleSharesOf 16 = .ok (.getfield 16, 3) := by decide +kernel
theorem d_Tb_staleSharesOf_19 : decode c_Tb_staleSharesOf 19 = .ok (.iload_n 3, 1) := by decide +kernel
theorem d_Tb_staleSharesOf_20 : decode c_Tb_staleSharesOf 20 = .ok (.invokevirtual 166, 3) := by decide +kernel
theorem d_Tb_staleSharesOf_23 : decode c_Tb_staleSharesOf 23 = .ok (.checkcast 115, 3) := by decide +kernel
theorem d_Tb_staleSharesOf_26 : decode c_Tb_staleSharesOf 26 = .ok (.iload_n 1, 1) := by decide +kernel
theorem d_Tb_staleSharesOf_27 : decode c_Tb_staleSharesOf 27 = .ok (.invokevirtual 342, 3) := by decide +kernel
theorem d_Tb_staleSharesOf_30 : decode c_Tb_staleSharesOf 30 = .ok (.ifCond .eq 6, 3) := by decide +kernel
theorem d_Tb_staleSharesOf_33 : decode c_Tb_staleSharesOf 33 = .ok (.iinc 2 1, 3) := by decide +kernel
theorem d_Tb_staleSharesOf_36 : decode c_Tb_staleSharesOf 36 = .ok (.iinc 3 1, 3) := by decide +kernel
theorem d_Tb_staleSharesOf_39 : decode c_Tb_staleSharesOf 39 = .ok (.goto (-35), 3) := by decide +kernel
theorem d_Tb_staleSharesOf_42 : decode c_Tb_staleSharesOf 42 = .ok (.iload_n 2, 1) := by decide +kernel
theorem d_Tb_staleSharesOf_43 : decode c_Tb_staleSharesOf 43 = .ok (.ireturn, 1) := by decide +kernel
set_option maxHeartbeats 4000000 in
set_option maxRecDepth 100000 in
theorem m_Tb_staleSharesOf {g0 : State} {d : zD} {l : Launch} {a0 : Array Value} (hs0 : zS0 d a0 g0) (hst : l.stackTraces = false) {G : zG} {A : Nat → Nat} {D : Nat → UInt64} {V : Nat → Nat → Int32} {nk ns : Nat} (hT : zT d A D V nk ns G) {j : Nat} (hj : j < 8) : zMet g0 d l y_Tb_staleSharesOf c_Tb_staleSharesOf 4 ((Option.some Jvm.ClassFile.FieldType.int)) 11 0 0 [.ref (A 0), .int (nI j)] (G) (zEq (some (.int (nI (zcnt (fun i => zstl (V (400 + i)) (V (200 + i) 3) j) ns)))) G) (zNo) := by
  have hG_Tb := hT.tb
  have hnk : nk ≤ 8 := hT.2.1
  have hns : ns ≤ 6 := hT.2.2.1
  refine z_entry hs0 hst (by decide) (Nat.le_of_ble_eq_true rfl) (fun p e s m args below meth c => ?_)
  refine z_iconst (v := (nI 0)) d_Tb_staleSharesOf_0 (by decide) ?_
  refine z_istore_n (L' := [(2, _), (0, _), (1, _)]) d_Tb_staleSharesOf_1 rfl (by decide) rfl ?_
  refine z_iconst (v := (nI 0)) d_Tb_staleSharesOf_2 (by decide) ?_
  refine z_istore_n (L' := [(3, _), (2, _), (0, _), (1, _)]) d_Tb_staleSharesOf_3 rfl (by decide) rfl ?_
  have key_4 : ∀ (n : Nat) (i : Nat), ns - i < n → (i ≤ ns) → Z g0 d y_Tb_staleSharesOf c_Tb_staleSharesOf 4 ((Option.some Jvm.ClassFile.FieldType.int)) [] p l e (zR 11 0 0) s m args below meth c (vx_MQ below (zQc g0 d (zEq (some (.int (nI (zcnt (fun i => zstl (V (400 + i)) (V (200 + i) 3) j) ns)))) G)) (zXc g0 d (zNo)) args s 0 0 (zA g0)) 0 0 (G) [(3, .int (nI i)), (2, .int (nI (zcnt (fun i => zstl (V (400 + i)) (V (200 + i) 3) j) i))), (0, .ref (A 0)), (1, .int (nI j))] [] 4 := by
    intro n
    induction n with
    | zero => intro i h0; exact absurd h0 (Nat.not_lt_zero _)
    | succ n ih_4 =>
      intro i hm_4 hi
      refine z_iload_n 0 d_Tb_staleSharesOf_4 rfl rfl ?_
      refine z_aload_n 2 d_Tb_staleSharesOf_5 rfl rfl ?_
      refine z_get zc_Tb 1 (by decide) qF_Tb_16 hG_Tb rfl d_Tb_staleSharesOf_6 ?_
      refine z_callV0 (m_AL_size hs0 hst hT.sl) ym_AL_size qM_Tb_68 qI_AL_size qV_AL_AL_size zc_AL hT.sl d_Tb_staleSharesOf_9 rfl (Nat.le_of_ble_eq_true rfl) ⟨Nat.zero_le _, Nat.zero_le _⟩ ⟨Nat.le_of_ble_eq_true rfl, Nat.le_of_ble_eq_true rfl⟩ ?_
      refine z_icmp_ge 42 d_Tb_staleSharesOf_12 (by decide) (fun c_12 => ?_) (fun c_12 => ?_)
      · skip
        obtain rfl : i = ns := by
          have := (nI_leI (by omega) (by omega)).mp c_12
          omega
        refine z_iload_n 1 d_Tb_staleSharesOf_42 rfl rfl ?_
        exact z_iret rfl (⟨rfl, rfl⟩) (by first | decide | omega) (by first | decide | omega) d_Tb_staleSharesOf_43
      · skip
        have hi6 : i < ns := Nat.lt_of_not_le fun q => c_12 (nI_le q (by omega))
        refine z_aload_n 2 d_Tb_staleSharesOf_15 rfl rfl ?_
        refine z_get zc_Tb 1 (by decide) qF_Tb_16 hG_Tb rfl d_Tb_staleSharesOf_16 ?_
        refine z_iload_n 0 d_Tb_staleSharesOf_19 rfl rfl ?_
        refine z_callV0 (m_AL_get hs0 hst (hT.sA hi6) hi6 (if_pos hi6)) ym_AL_get qM_Tb_166 qI_AL_get qV_AL_AL_get zc_AL (hT.sA hi6).1 d_Tb_staleSharesOf_20 rfl (Nat.le_of_ble_eq_true rfl) ⟨Nat.zero_le _, Nat.zero_le _⟩ ⟨Nat.le_of_ble_eq_true rfl, Nat.le_of_ble_eq_true rfl⟩ ?_
        refine z_castS zc_Se qK_Tb_115 (hT.se hi6).1 d_Tb_staleSharesOf_23 ?_
        refine z_iload_n 3 d_Tb_staleSharesOf_26 rfl rfl ?_
        refine z_callV0 (m_Se_isStale hs0 hst (hT.se hi6) hj) ym_Se_isStale qM_Tb_342 qI_Se_isStale qV_Se_Se_isStale zc_Se (hT.se hi6).1 d_Tb_staleSharesOf_27 rfl (Nat.le_of_ble_eq_true rfl) ⟨Nat.zero_le _, Nat.zero_le _⟩ ⟨Nat.le_of_ble_eq_true rfl, Nat.le_of_ble_eq_true rfl⟩ ?_
        refine z_if_eq 36 d_Tb_staleSharesOf_30 (by decide) (fun c_30 => ?_) (fun c_30 => ?_)
        · skip
          rw [zcnt_f (f := fun i => zstl (V (400 + i)) (V (200 + i) 3) j) c_30]
          refine z_iinc (v := nI (i + 1)) (L' := [(3, _), (2, _), (0, _), (1, _)]) 0 d_Tb_staleSharesOf_36 rfl (nI_1 i) (by decide) rfl ?_
          refine z_goto 4 d_Tb_staleSharesOf_39 (by decide) ?_
          exact ih_4 (i + 1) (by omega) (by omega)
        · skip
          refine z_iinc (v := _) (L' := [(2, _), (3, _), (0, _), (1, _)]) 1 d_Tb_staleSharesOf_33 rfl (zcnt_t (f := fun i => zstl (V (400 + i)) (V (200 + i) 3) j) c_30) (by decide) rfl ?_
          refine z_iinc (v := nI (i + 1)) (L' := [(3, _), (2, _), (0, _), (1, _)]) 1 d_Tb_staleSharesOf_36 rfl (nI_1 i) (by decide) rfl ?_
          refine z_goto 4 d_Tb_staleSharesOf_39 (by decide) ?_
          exact ih_4 (i + 1) (by omega) (by omega)
  exact key_4 (ns + 1) 0 (by omega) (by omega)
