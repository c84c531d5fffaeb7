
section ZLW
variable {g0 : State} {d : zD} {y : MethodName} {cc : ByteArray} {nL : Nat} {ret : Option FieldType} {tb : List ExceptionTableEntry} {p : Program} {l : Launch} {e : Env} {R : Room} {s : State} {m : MethodId} {args : Array Value} {below : List Frame} {meth : Method} {c : Code} {Q : State → Prop} {cells slots : Nat} {G : zG} {L : List (Nat × Value)} {st : List Value} {pc : Nat}
theorem z_lcmp {a b : Int64} (hd : decode cc pc = .ok (.lcmp, 1)) (k : Z g0 d y cc nL ret tb p l e R s m args below meth c Q cells slots G L (.int (lg_cmp a b) :: st) (pc + 1)) : Z g0 d y cc nL ret tb p l e R s m args below meth c Q cells slots G L (.long b :: .long a :: st) pc := fun hc H locs ls hP hS hl => W.lcmp hc.x hc.b hd (k hc H locs ls hP hS hl)
end ZLW
def zIx (n : Nat) (x : Int32) : Prop := ∃ k, k < n ∧ x = nI k
theorem zIx_1 {n : Nat} {x : Int32} (hn : n < 100) (h : x < 0 ∨ nI n ≤ x) : ¬ zIx n x := fun ⟨k, hk, e⟩ => by
  subst e
  rcases h with h | h
  · exact nI_pos (by omega) h
  · have := (nI_leI (a := n) (b := k) (by omega) (by omega)).mp h; omega
theorem zIx_2 {n : Nat} {x : Int32} (hn : n < 100) (h : zin x 0 (nI n - 1) = false) : ¬ zIx n x := fun ⟨k, hk, e⟩ => by
  subst e
  have h1 : zin (nI k) 0 (nI n - 1) = true := by
    rw [nI_s1 (by omega) (by omega)]
    simp only [zin, Bool.and_eq_true, decide_eq_true_eq]
    exact ⟨nI_pos' (by omega), (nI_leI (by omega) (by omega)).mpr (by omega)⟩
  rw [h] at h1; cases h1
theorem zset_ok {nk : Nat} (hk : nk ≤ 8) {g : Nat} (hg : g < 2 ^ nk) : zsetok nk (nI g) = true := by
  have hp : 2 ^ nk ≤ 256 := Nat.pow_le_pow_right (n := 2) (by decide) hk
  unfold zsetok
  rw [zall_eq hk]
  simp only [zin, Bool.and_eq_true, decide_eq_true_eq]
  exact ⟨nI_pos' (by omega), (nI_leI (by omega) (by omega)).mpr (by omega)⟩
/-- frozen, told for both -/
theorem zfz {f x x3 : Int32} {q : Nat} (hq : q < 4) (hf : f = nI q) (hx : zin x 0 1 = true) : ∃ q2, q2 < 4 ∧ (if x3 = 0 then f &&& ((1 <<< (x &&& 31)) ^^^ (-1)) else f ||| (1 <<< (x &&& 31))) = nI q2 := by
  subst hf
  have hx2 : x = 0 ∨ x = 1 := by
    simp only [zin, Bool.and_eq_true, decide_eq_true_eq, Int32.le_iff_toInt_le, ← Int32.toInt_inj, Int32.reduceToInt] at *
    omega
  have key : ∀ q, q < 4 → (∃ q2, q2 < 4 ∧ nI q &&& ((1 <<< ((0 : Int32) &&& 31)) ^^^ (-1)) = nI q2) ∧ (∃ q2, q2 < 4 ∧ nI q &&& ((1 <<< ((1 : Int32) &&& 31)) ^^^ (-1)) = nI q2) ∧ (∃ q2, q2 < 4 ∧ nI q ||| (1 <<< ((0 : Int32) &&& 31)) = nI q2) ∧ ∃ q2, q2 < 4 ∧ nI q ||| (1 <<< ((1 : Int32) &&& 31)) = nI q2 := by decide +kernel
  obtain ⟨k1, k2, k3, k4⟩ := key q hq
  by_cases h3 : x3 = 0
  · simp only [if_pos h3]
    rcases hx2 with rfl | rfl
    · exact k1
    · exact k2
  · simp only [if_neg h3]
    rcases hx2 with rfl | rfl
    · exact k3
    · exact k4
theorem m_Tb_keeperM {g0 : State} {d : zD} {l : Launch} {a0 : Array Value} (hs0 : zS0 d a0 g0) (hst : l.stackTraces = false) {G : zG} {A : Nat → Nat} {D : Nat → UInt64} {V : Nat → Nat → Int32} {nk ns : Nat} (hT : zT d A D V nk ns G) (x z w : Int32) : zMet g0 d l y_Tb_keeper c_Tb_keeper 5 ((Option.some Jvm.ClassFile.FieldType.int)) 9 2 92 [.ref (A 0), .int x, .int z, .int w] G (fun r G1 => zkok x z w = true ∧ nk < 8 ∧ r = some (.int (nI nk)) ∧ ∃ A', zNw A A' nk ns (nk + 1) ns G ∧ zT d A' D (rset (rset V (100 + nk) (z6k (nI nk) x z w)) 1 (fun _ => V 1 0 + 1)) (nk + 1) ns G1 ∧ tFr A nk ns G G1) (fun E G1 => G1 = G ∧ ((zkok x z w = false ∧ E = "java/lang/IllegalArgumentException") ∨ (zkok x z w = true ∧ nk = 8 ∧ E = "java/lang/IllegalStateException"))) := by
  rcases Nat.eq_zero_or_pos nk with h0 | h0
  · exact m_Tb_keeper_a hs0 hst hT h0 x z w
  · exact m_Tb_keeper_b hs0 hst hT h0 x z w
theorem m_Tb_dealME {g0 : State} {d : zD} {l : Launch} {a0 : Array Value} (hs0 : zS0 d a0 g0) (hst : l.stackTraces = false) {G : zG} {A : Nat → Nat} {D : Nat → UInt64} {V : Nat → Nat → Int32} {nk ns : Nat} (hT : zT d A D V nk ns G) (x t z dt set : Int32) : zMet g0 d l y_Tb_deal c_Tb_deal 8 ((Option.some Jvm.ClassFile.FieldType.int)) 9 5 116 [.ref (A 0), .int x, .int t, .int z, .int dt, .int set] G (fun r G1 => zdok nk x t z dt set = true ∧ ns < 6 ∧ r = some (.int (nI ns)) ∧ ∃ A' V', zNw A A' nk ns nk (ns + 1) G ∧ zT d A' D V' nk (ns + 1) G1 ∧ zDl V V' ns x t z dt set ∧ tFr A nk ns G G1) (fun E G1 => G1 = G ∧ ((zdok nk x t z dt set = false ∧ E = "java/lang/IllegalArgumentException") ∨ (zdok nk x t z dt set = true ∧ ns = 6 ∧ E = "java/lang/IllegalStateException"))) := by
  rcases Nat.eq_zero_or_pos ns with h0 | h0
  · exact m_Tb_dealE_a hs0 hst hT h0 x t z dt set
  · exact m_Tb_dealE_b hs0 hst hT h0 x t z dt set



/-! what the acting bank becomes -/
def gA (d : zD) (A : Nat → Nat) (nk ns : Nat) (G : zG) (N : Nat) (W1 : Nat → Nat → Int32) (nk1 ns1 ne1 : Nat) (G1 : zG) : Prop := ∃ A' D' V', zT d A' D' V' nk1 ns1 G1 ∧ zNw A A' nk ns nk1 ns1 G ∧ tFr A nk ns G G1 ∧ zSM N V' W1 nk1 ns1 ne1
def gK (d : zD) (A : Nat → Nat) (nk ns : Nat) (G : zG) (N : Nat) (W : Nat → Nat → Int32) (ne : Nat) (G1 : zG) : Prop := ∃ D' V', zT d A D' V' nk ns G1 ∧ tFr A nk ns G G1 ∧ zSM N V' W nk ns ne
theorem zpw {nk : Nat} (h : nk ≤ 8) : 2 ^ nk ≤ 256 := Nat.pow_le_pow_right (n := 2) (by decide) h
section GL
variable {d : zD} {A : Nat → Nat} {D : Nat → UInt64} {V W W1 : Nat → Nat → Int32} {nk ns ne ne1 N : Nat} {G G1 : zG} {r : Option Value} {E : String}
theorem gK.a (h : gK d A nk ns G N W ne G1) : gA d A nk ns G N W nk ns ne G1 := by
  obtain ⟨D', V', h1, h2, h3⟩ := h
  exact ⟨A, D', V', h1, zNw.rf, h2, h3⟩
theorem gK.of {D' : Nat → UInt64} {V' : Nat → Nat → Int32} (hS : zSM N V W nk ns ne) (hT : zT d A D' V' nk ns G1) (hK : zKo V V') (hF : tFr A nk ns G G1) : gK d A nk ns G N W ne G1 := ⟨D', V', hT, hF, hS.c hK⟩
/-- what opens -/
theorem gL_open (hS : zSM N V W nk ns ne) (hP : gP W nk ns) (hN : N < 2 ^ 20 - 1) (hnk : nk ≤ 8) (hns : ns ≤ 6) {si g : Nat} {x set : Int32} (ex : x = nI si) (eg : set = nI g) (hsi : si < ns) (hg : g < 2 ^ nk) (hR : ∃ q, mOp W W1 nk ne ne1 si g (nI si) q) (hp : (fun r G1 => ∃ si, si < ns ∧ x = nI si ∧ zsetok nk set = true ∧ ∃ V', zT d A D V' nk ns G1 ∧ zOp V V' nk si set x r ∧ tFr A nk ns G G1) r G1) : gA d A nk ns G (N + 1) W1 nk ns ne1 G1 := by
  subst ex eg
  have hp2 := zpw hnk
  obtain ⟨s9, h9, e9, hs, V', hT', hop, hF⟩ := hp
  obtain rfl : si = s9 := (nI_eq (by omega) (by omega)).mp e9
  obtain ⟨q, mop⟩ := hR
  obtain ⟨-, e2⟩ := hS.op (by omega) hnk hns (fun k hk => (hP.1 k hk).1) hsi (by omega) hop mop
  exact ⟨A, D, V', hT', zNw.rf, hF, e2.up (by omega)⟩
theorem gX_open (hnk : nk ≤ 8) (hns : ns ≤ 6) {si g : Nat} {x set : Int32} (ex : x = nI si) (eg : set = nI g) (hsi : si < ns) (hg : g < 2 ^ nk) (hp : (zXo d A nk ns V G (fun E => (zoo ns x ∧ E = "java/lang/IndexOutOfBoundsException") ∨ ((∃ si, si < ns ∧ x = nI si) ∧ zsetok nk set = false ∧ E = "java/lang/IllegalArgumentException"))) E G1) : False := by
  subst ex eg
  obtain ⟨h | ⟨-, h, -⟩, -⟩ := hp
  · exact zIx_1 (by omega) h.1 ⟨si, hsi, rfl⟩
  · rw [zset_ok hnk hg] at h; cases h
/-- flood -/
theorem gL_flood (hS : zSM N V W nk ns ne) (hnk : nk ≤ 8) (hns : ns ≤ 6) {x : Int32} (hR : ∃ W2, mFd W W2 ns x (mDn nk ns 0) ∧ mEn W2 W1 ne ne1 2 x) (hp : (fun r G1 => zin x 0 3 = true ∧ ∃ V2 V', zT d A D V' nk ns G1 ∧ zFd V V2 ns x nk ∧ zEn V2 V' 2 x (V2 0 0) ∧ r = some (.int (zgone V ns x nk)) ∧ tFr A nk ns G G1) r G1) : gA d A nk ns G (N + 1) W1 nk ns ne1 G1 := by
  obtain ⟨-, V2, V', hT', f1, f2, -, hF⟩ := hp
  obtain ⟨W2, m1, m2⟩ := hR
  have h2 := hS.fd hnk hns f1 m1
  have h3 := h2.en hns hnk (dy := V2 0 0) h2.1.1 f2 m2
  exact ⟨A, D, V', hT', zNw.rf, hF, h3.up (by omega)⟩
theorem gX_flood {z : Nat} {x : Int32} (ex : x = nI z) (hz : z < 4) (hp : (zXo d A nk ns V G (fun E => zin x 0 3 = false ∧ E = "java/lang/IndexOutOfBoundsException")) E G1) : False := by
  subst ex
  obtain ⟨⟨h, -⟩, -⟩ := hp
  have h2 := zin_ok (q := z) (n := 3) (by omega) (by decide)
  rw [show (3 : Int32) = nI 3 from rfl, h2] at h
  cases h
/-- fresh -/
theorem gFr_cw (hS : zSM N V W nk ns ne) (hN : N < 2 ^ 20 - 1) {si g : Nat} (hsi : si < ns) (hg : g < 256) : zbc (nI g &&& zset (zcur (V (400 + si)) (V (200 + si) 3)) 8) = nI (zpop 9 (mgr W si g)) := by
  have hl := mgr_lt (V := W) (si := si) (s := g)
  rw [Int32.and_comm, zset_congr (g := zgd (W (300 + si)) (W (400 + si)) (W (200 + si) 3)) 8 (fun k hk => hS.cur (by omega) hsi hk), zand_N hg]
  exact zbc_512 _ (by show mgr W si g < 512; omega)
theorem gL_fresh (hS : zSM N V W nk ns ne) (hP : gP W nk ns) (hN : N < 2 ^ 20 - 1) (hnk : nk ≤ 8) (hns : ns ≤ 6) {si g : Nat} {x set : Int32} (ex : x = nI si) (eg : set = nI g) (hsi : si < ns) (hg : g < 2 ^ nk) (hR : gFsR W W1 ne ne1 si g (nI si)) (hp : (fun r G1 => ∃ s9, s9 < ns ∧ x = nI s9 ∧ zsetok nk set = true ∧ ¬ zbc (set &&& zset (zcur (V (400 + s9)) (V (200 + s9) 3)) 8) < V (200 + s9) 0 ∧ ∃ V', zT d A D V' nk ns G1 ∧ zFs V V' s9 (set &&& zset (zcur (V (400 + s9)) (V (200 + s9) 3)) 8) x r ∧ tFr A nk ns G G1) r G1) : gA d A nk ns G (N + 1) W1 nk ns ne1 G1 := by
  subst ex eg
  have hp2 := zpw hnk
  obtain ⟨s9, h9, e9, -, -, V', hT', hfs, hF⟩ := hp
  obtain rfl : si = s9 := (nI_eq (by omega) (by omega)).mp e9
  obtain ⟨W2, W4, W5, fc, w1, w2, w3, w4, w5⟩ := hR
  exact ⟨A, D, V', hT', zNw.rf, hF, (hS.fr hN hnk hns hsi (by omega) (hP.2 si hsi).1 (by decide) (by decide) hfs w1 w2 w3 w4 w5).1⟩
theorem gX_fresh (hS : zSM N V W nk ns ne) (hP : gP W nk ns) (hN : N < 2 ^ 20 - 1) (hnk : nk ≤ 8) (hns : ns ≤ 6) {si g : Nat} {x set : Int32} (ex : x = nI si) (eg : set = nI g) (hsi : si < ns) (hg : g < 2 ^ nk) (hn : 0 < zpop 9 (mgr W si g)) (hp : (zXo d A nk ns V G (fun E => (zoo ns x ∧ E = "java/lang/IndexOutOfBoundsException") ∨ (∃ s9, s9 < ns ∧ x = nI s9 ∧ ((zsetok nk set = false ∧ E = "java/lang/IllegalArgumentException") ∨ (zsetok nk set = true ∧ zbc (set &&& zset (zcur (V (400 + s9)) (V (200 + s9) 3)) 8) < V (200 + s9) 0 ∧ E = "java/lang/IllegalStateException"))))) E G1) : False := by
  subst ex eg
  have hp2 := zpw hnk
  obtain ⟨h | ⟨s9, h9, e9, h⟩, -⟩ := hp
  · exact zIx_1 (by omega) h.1 ⟨si, hsi, rfl⟩
  · obtain rfl : si = s9 := (nI_eq (by omega) (by omega)).mp e9
    rcases h with ⟨h, -⟩ | ⟨-, h, -⟩
    · rw [zset_ok hnk hg] at h; cases h
    · rw [gFr_cw hS hN hsi (by omega), hS.t hsi (hP.2 si hsi).1] at h
      have hl := mgr_lt (V := W) (si := si) (s := g)
      have := (nI_ltI (a := zpop 9 (mgr W si g)) (b := 1) (by have := zpop_le (mgr W si g) (by omega); omega) (by decide)).mp h
      omega
/-- rebuild -/
theorem gL_rebuild (hS : zSM N V W nk ns ne) (hN : N < 2 ^ 20 - 1) (hnk : nk ≤ 8) (hns : ns ≤ 6) {si ki g : Nat} {x k w : Int32} (ex : x = nI si) (ek : k = nI ki) (eg : w = nI g) (hsi : si < ns) (hki : ki < nk) (hg : g < 2 ^ nk) (hR : ∃ q, mRb W W1 nk ne ne1 si ki g (nI si) q) (hp : (fun r G1 => ∃ si, si < ns ∧ x = nI si ∧ ∃ ki, ki < nk ∧ k = nI ki ∧ zsetok nk w = true ∧ zcur (V (400 + si)) (V (200 + si) 3) ki = false ∧ ∃ V', zT d A D V' nk ns G1 ∧ zRb V V' nk si ki w x r ∧ tFr A nk ns G G1) r G1) : gA d A nk ns G (N + 1) W1 nk ns ne1 G1 := by
  subst ex ek eg
  have hp2 := zpw hnk
  obtain ⟨s9, h9, e9, k9, hk9, ek9, -, -, V', hT', hrb, hF⟩ := hp
  obtain rfl : si = s9 := (nI_eq (by omega) (by omega)).mp e9
  obtain rfl : ki = k9 := (nI_eq (by omega) (by omega)).mp ek9
  obtain ⟨q, mrb⟩ := hR
  exact ⟨A, D, V', hT', zNw.rf, hF, (hS.rb (by omega) hnk hns hsi hki (by omega) hrb mrb).2.up (by omega)⟩
theorem gX_rebuild (hS : zSM N V W nk ns ne) (hP : gP W nk ns) (hN : N < 2 ^ 20 - 1) (hnk : nk ≤ 8) (hns : ns ≤ 6) {si ki g : Nat} {x k w : Int32} (ex : x = nI si) (ek : k = nI ki) (eg : w = nI g) (hsi : si < ns) (hki : ki < nk) (hg : g < 2 ^ nk) (hc : zgd (W (300 + si)) (W (400 + si)) (W (200 + si) 3) ki = false) (hgd : rgd (W 7) (mgv W si) 1 (mgr W si g) = true) (hp : (zXo d A nk ns V G (fun E => ((zoo ns x ∨ zoo nk k) ∧ E = "java/lang/IndexOutOfBoundsException") ∨ (∃ si, si < ns ∧ x = nI si ∧ ∃ ki, ki < nk ∧ k = nI ki ∧ ((zsetok nk w = false ∧ E = "java/lang/IllegalArgumentException") ∨ (zsetok nk w = true ∧ (zcur (V (400 + si)) (V (200 + si) 3) ki = true ∨ (zcur (V (400 + si)) (V (200 + si) 3) ki = false ∧ ∃ V4, zDd V V4 nk si w ∧ zgood_ (V4 12 0) (V4 12 1) (V4 12 3) = false)) ∧ E = "java/lang/IllegalStateException"))))) E G1) : False := by
  subst ex ek eg
  have hp2 := zpw hnk
  obtain ⟨⟨h | h, -⟩ | ⟨s9, h9, e9, k9, hk9, ek9, h⟩, -⟩ := hp
  · exact zIx_1 (by omega) h ⟨si, hsi, rfl⟩
  · exact zIx_1 (by omega) h ⟨ki, hki, rfl⟩
  · obtain rfl : si = s9 := (nI_eq (by omega) (by omega)).mp e9
    obtain rfl : ki = k9 := (nI_eq (by omega) (by omega)).mp ek9
    rcases h with ⟨h, -⟩ | ⟨-, h, -⟩
    · rw [zset_ok hnk hg] at h; cases h
    · rw [hS.cur (by omega) hsi (by omega), hc] at h
      rcases h with h | ⟨-, V4, hd, hz⟩
      · cases h
      · obtain ⟨-, e12, -⟩ := hS.dd (by omega) hnk hsi (by omega) (hP.2 si hsi).1 (by decide) (by decide) hd
        rw [e12] at hz
        have := hz.symm.trans ((zgood_rgd (inv := W 7) (h := mgv W si) mgr_lt (by decide) (by decide)).trans hgd)
        cases this
/-- lie -/
theorem gL_lie (hS : zSM N V W nk ns ne) (hnk : nk ≤ 8) (hns : ns ≤ 6) {ki : Nat} {x w : Int32} (ex : x = nI ki) (hki : ki < nk) (hp : (fun r G1 => ∃ k, k < nk ∧ x = nI k ∧ zin w 0 96 = true ∧ r = some (.int (V (100 + k) 4)) ∧ zT d A D (rset V (100 + k) (upd (V (100 + k)) 4 w)) nk ns G1 ∧ tFr A nk ns G G1) r G1) : gA d A nk ns G (N + 1) (rset W (100 + ki) (zk5 (W (100 + ki)) w (W (100 + ki) 4))) nk ns ne G1 := by
  subst ex
  obtain ⟨k9, h9, e9, hw, -, hT', hF⟩ := hp
  obtain rfl : ki = k9 := (nI_eq (by omega) (by omega)).mp e9
  exact ⟨A, D, _, hT', zNw.rf, hF, (hS.li hnk hns hki hw).up (by omega)⟩
theorem gX_lie (hnk : nk ≤ 8) {ki z : Nat} {x w : Int32} (ex : x = nI ki) (ew : w = nI z) (hki : ki < nk) (hz : z < 97) (hp : (fun E G1 => G1 = G ∧ (((x < 0 ∨ nI nk ≤ x) ∧ E = "java/lang/IndexOutOfBoundsException") ∨ (zin w 0 96 = false ∧ (∃ k, k < nk ∧ x = nI k) ∧ E = "java/lang/IllegalArgumentException"))) E G1) : False := by
  subst ex ew
  obtain ⟨-, ⟨h, -⟩ | ⟨h, -⟩⟩ := hp
  · exact zIx_1 (by omega) h ⟨ki, hki, rfl⟩
  · rw [show (96 : Int32) = nI 96 from rfl, zin_ok (q := z) (n := 96) (by omega) (by decide)] at h; cases h
/-- freeze -/
def gfz (x x3 f : Int32) : Int32 := if x3 = 0 then f &&& ((1 <<< (x &&& 31)) ^^^ (-1)) else f ||| (1 <<< (x &&& 31))
theorem gL_freeze (hS : zSM N V W nk ns ne) (hnk : nk ≤ 8) (hns : ns ≤ 6) {si : Nat} {x w x3 : Int32} (ew : w = nI si) (hsi : si < ns) (hp : (fun r G1 => ∃ k, k < ns ∧ w = nI k ∧ zin x 0 1 = true ∧ r = some (.int (zbc (if x3 = 0 then V (200 + k) 4 &&& ((1 <<< (x &&& 31)) ^^^ (-1)) else V (200 + k) 4 ||| (1 <<< (x &&& 31))))) ∧ zT d A D (rset V (200 + k) (z6 (V (200 + k)) (V (200 + k) 3) (if x3 = 0 then V (200 + k) 4 &&& ((1 <<< (x &&& 31)) ^^^ (-1)) else V (200 + k) 4 ||| (1 <<< (x &&& 31))) (V (200 + k) 5))) nk ns G1 ∧ tFr A nk ns G G1) r G1) : gA d A nk ns G (N + 1) (rset W (200 + si) (zs6 (W (200 + si)) (W (200 + si) 3) (gfz x x3 (W (200 + si) 4)) (W (200 + si) 5))) nk ns ne G1 := by
  subst ew
  obtain ⟨k9, h9, e9, hx, -, hT', hF⟩ := hp
  obtain rfl : si = k9 := (nI_eq (by omega) (by omega)).mp e9
  obtain ⟨s1, ⟨f, hf, ef⟩, -⟩ := hS.2.2.1 si hsi
  have e4 := s1 4 (by decide)
  have hq := zfz (x3 := x3) hf ef hx
  refine ⟨A, D, _, hT', zNw.rf, hF, ?_⟩
  unfold gfz
  rw [← e4]
  exact (hS.fz hnk hns hsi hq).up (by omega)
theorem gX_freeze (hns : ns ≤ 6) {si c : Nat} {x w x3 : Int32} (ex : x = nI c) (ew : w = nI si) (hc : c < 2) (hsi : si < ns) (hp : (fun E G1 => G1 = G ∧ (zin x 0 1 = false ∨ w < 0 ∨ nI ns ≤ w) ∧ E = "java/lang/IndexOutOfBoundsException") E G1) : False := by
  subst ex ew
  obtain ⟨-, h, -⟩ := hp
  rcases h with h | h
  · rw [show (1 : Int32) = nI 1 from rfl, zin_ok (q := c) (n := 1) (by omega) (by decide)] at h; cases h
  · exact zIx_1 (by omega) h ⟨si, hsi, rfl⟩
/-- deal -/
theorem gL_deal (hS : zSM N V W nk ns ne) (hnk : nk ≤ 8) {a9 g : Nat} {x t z dt set : Int32} (ex : x = nI a9) (et : t = nI 1) (eg : set = nI g) (ha : a9 < 97) (hg : g < 2 ^ nk) (hR : mDl W W1 ns ne ne1 1 x z dt set) (hp : (fun r G1 => zdok nk x t z dt set = true ∧ ns < 6 ∧ r = some (.int (nI ns)) ∧ ∃ A' V', zNw A A' nk ns nk (ns + 1) G ∧ zT d A' D V' nk (ns + 1) G1 ∧ zDl V V' ns x t z dt set ∧ tFr A nk ns G G1) r G1) : gA d A nk ns G (N + 1) W1 nk (ns + 1) ne1 G1 := by
  subst et eg
  obtain ⟨-, hlt, -, A', V', hN', hT', hd, hF⟩ := hp
  exact ⟨A', D, V', hT', hN', hF, (hS.dl hnk hlt (t := 1) (by decide) (by decide) ha ex hg hd hR).up (by omega)⟩
theorem godd : ∀ g, g < 256 → 1 ≤ zpop 9 (g ||| 1) := by decide +kernel
theorem gX_deal (hnk : nk ≤ 8) (hns : ns < 6) {a9 z9 d9 g : Nat} {x t z dt set : Int32} (ex : x = nI a9) (et : t = nI 1) (ez : z = nI z9) (ed : dt = nI d9) (eg : set = nI (g ||| 1)) (ha : a9 < 97) (hz1 : 1 ≤ z9) (hz : z9 < 5) (hd : d9 < 1000) (hg : g ||| 1 < 2 ^ nk) (hg2 : g < 256) (hp : (fun E G1 => G1 = G ∧ ((zdok nk x t z dt set = false ∧ E = "java/lang/IllegalArgumentException") ∨ (zdok nk x t z dt set = true ∧ ns = 6 ∧ E = "java/lang/IllegalStateException"))) E G1) : False := by
  subst ex et ez ed eg
  obtain ⟨-, ⟨h, -⟩ | ⟨-, h, -⟩⟩ := hp
  · have hp2 := zpw hnk
    have ho := godd g hg2
    have hpl := zpop_le (g ||| 1) (by omega)
    have h1 : ∀ q n, 1 ≤ q → q ≤ n → n < 2 ^ 31 → zin (nI q) 1 (nI n) = true := fun q n y1 y2 y3 => by
      show (decide (nI 1 ≤ nI q) && decide (nI q ≤ nI n)) = true
      rw [decide_eq_true ((nI_leI (a := 1) (b := q) (by decide) (by omega)).mpr y1), decide_eq_true ((nI_leI (by omega) y3).mpr y2)]
      rfl
    have e : zdok nk (nI a9) (nI 1) (nI z9) (nI d9) (nI (g ||| 1)) = true := by
      unfold zdok
      rw [show (96 : Int32) = nI 96 from rfl, show (4 : Int32) = nI 4 from rfl, show (999 : Int32) = nI 999 from rfl, zin_ok (q := a9) (n := 96) (by omega) (by decide), zin_ok (q := d9) (n := 999) (by omega) (by decide), zset_ok hnk hg, h1 1 4 (by decide) (by decide) (by decide), h1 z9 4 hz1 (by omega) (by decide), zbc_512 _ (by omega), decide_eq_true ((nI_leI (a := 1) (b := zpop 9 (g ||| 1)) (by decide) (by omega)).mpr ho)]
      rfl
    rw [e] at h
    cases h
  · omega
end GL

