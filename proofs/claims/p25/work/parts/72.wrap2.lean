
theorem zNw.ho {A A' : Nat → Nat} {nk ns nk' ns' ho : Nat} {G : zG} (h : zNw A A' nk ns nk' ns' G) (ho1 : ∀ r, tlive nk ns r → A r ≠ ho) {v : va_E} (hO : G ho = some v) : ∀ r, tlive nk' ns' r → A' r ≠ ho := fun r hr e => by
  rcases h.2 r hr with ⟨q, hq, e2⟩ | e2
  · exact ho1 q hq (e2.symm.trans e)
  · rw [e, hO] at e2; cases e2
def zOn (ho : Nat) (n : Int64) (G : zG) : Prop := ∃ (x : UInt64) (y : Value), G ho = some (zob 9 [.long n, .double x, y])
theorem m_Tb_keeperM {g0 : State} {d : zD} {l : Launch} {a0 : Array Value} (hs0 : zS0 d a0 g0) (hst : l.stackTraces = false) {G : zG} {A : Nat → Nat} {D : Nat → UInt64} {V : Nat → Nat → Int32} {nk ns : Nat} (hT : zT d A D V nk ns G) (x z w : Int32) : zMet g0 d l y_Tb_keeper c_Tb_keeper 5 ((Option.some Jvm.ClassFile.FieldType.int)) 11 2 92 [.ref (A 0), .int x, .int z, .int w] G (fun r G1 => zkok x z w = true ∧ nk < 8 ∧ r = some (.int (nI nk)) ∧ ∃ A', zNw A A' nk ns (nk + 1) ns G ∧ zT d A' D (rset (rset V (100 + nk) (z6k (nI nk) x z w)) 1 (fun _ => V 1 0 + 1)) (nk + 1) ns G1 ∧ tFr A nk ns G G1) (fun E G1 => G1 = G ∧ ((zkok x z w = false ∧ E = "java/lang/IllegalArgumentException") ∨ (zkok x z w = true ∧ nk = 8 ∧ E = "java/lang/IllegalStateException"))) := by
  rcases Nat.eq_zero_or_pos nk with h0 | h0
  · exact m_Tb_keeper_a hs0 hst hT h0 x z w
  · exact m_Tb_keeper_b hs0 hst hT h0 x z w
theorem m_Tb_dealME {g0 : State} {d : zD} {l : Launch} {a0 : Array Value} (hs0 : zS0 d a0 g0) (hst : l.stackTraces = false) {G : zG} {A : Nat → Nat} {D : Nat → UInt64} {V : Nat → Nat → Int32} {nk ns : Nat} (hT : zT d A D V nk ns G) (x t z dt set : Int32) : zMet g0 d l y_Tb_deal c_Tb_deal 8 ((Option.some Jvm.ClassFile.FieldType.int)) 12 5 116 [.ref (A 0), .int x, .int t, .int z, .int dt, .int set] G (fun r G1 => zdok nk x t z dt set = true ∧ ns < 6 ∧ r = some (.int (nI ns)) ∧ ∃ A' V', zNw A A' nk ns nk (ns + 1) G ∧ zT d A' D V' nk (ns + 1) G1 ∧ zDl V V' ns x t z dt set ∧ tFr A nk ns G G1) (fun E G1 => G1 = G ∧ ((zdok nk x t z dt set = false ∧ E = "java/lang/IllegalArgumentException") ∨ (zdok nk x t z dt set = true ∧ ns = 6 ∧ E = "java/lang/IllegalStateException"))) := by
  rcases Nat.eq_zero_or_pos ns with h0 | h0
  · exact m_Tb_dealE_a hs0 hst hT h0 x t z dt set
  · exact m_Tb_dealE_b hs0 hst hT h0 x t z dt set

theorem zOp.v {V V' : Nat → Nat → Int32} {nk si : Nat} {set x : Int32} {r : Option Value} (h : zOp V V' nk si set x r) : ∃ v, r = some (.int v) := by
  obtain ⟨V4, -, h⟩ := h
  rcases h with ⟨-, h, -⟩ | ⟨-, -, h, -⟩ | ⟨-, -, V5, -, -, h⟩
  · exact ⟨_, h⟩
  · exact ⟨_, h⟩
  · exact ⟨_, h⟩
theorem zRb.v {V V' : Nat → Nat → Int32} {nk si ki : Nat} {w x : Int32} {r : Option Value} (h : zRb V V' nk si ki w x r) : ∃ v, r = some (.int v) := by
  obtain ⟨V4, V5, V6, -, -, -, -, -, h⟩ := h
  exact ⟨_, h⟩
theorem zFs.v {V V' : Nat → Nat → Int32} {si : Nat} {cw x : Int32} {r : Option Value} (h : zFs V V' si cw x r) : ∃ v, r = some (.int v) := by
  obtain ⟨V4, V5, -, -, -, h⟩ := h
  exact ⟨_, h⟩
/-- the law's sight of a call that changes the class's numbers: the code, the numbers behind it, what is told -/
def lTe (d : zD) (A : Nat → Nat) (nk ns ho : Nat) (G : zG) (P : Int32 → (Nat → Nat → Int32) → Int32 → Prop) : Option Value → zG → Prop := fun r G1 => ∃ (kk : Int32) (D' : Nat → UInt64) (V' : Nat → Nat → Int32) (v : Int32), r = some (.int kk) ∧ P kk V' v ∧ zT d A D' V' nk ns G1 ∧ zOut ho G1 ∧ lFr A nk ns ho G G1 ∧ (kk = 0 → zOn ho v.toInt64 G1)
section LTE
variable {d : zD} {A : Nat → Nat} {D : Nat → UInt64} {V V1 : Nat → Nat → Int32} {nk ns ho : Nat} {G G1 : zG}
theorem lTe.x {P : Int32 → (Nat → Nat → Int32) → Int32 → Prop} {k : Int32} (hk : k ≠ 0) (hT : zT d A D V1 nk ns G1) (hF : tFr A nk ns G G1) (hO : zOut ho G) (ho1 : ∀ r, tlive nk ns r → A r ≠ ho) (hP : P k V1 0) : lTe d A nk ns ho G P (some (.int k)) G1 := by
  obtain ⟨n, x, y, e⟩ := hO
  exact ⟨k, D, V1, 0, rfl, hP, hT, ⟨n, x, y, hF _ _ e (fun r hr => (ho1 r hr).symm)⟩, lFr.of hF, fun q => absurd q hk⟩
theorem lTe.r {P : Int32 → (Nat → Nat → Int32) → Int32 → Prop} {v : Int32} {x : UInt64} {y : Value} (hT : zT d A D V1 nk ns G1) (hF : tFr A nk ns G G1) (ho1 : ∀ r, tlive nk ns r → A r ≠ ho) (hP : P 0 V1 v) : lTe d A nk ns ho G P (some (.int 0)) (zu G1 ho (zob 9 [.long v.toInt64, .double x, y])) :=
  ⟨0, D, V1, v, rfl, hP, hT.out ho1, ⟨_, _, _, zu_s⟩, (lFr.of hF).nw, fun _ => ⟨_, _, zu_s⟩⟩
end LTE
/-- what the class's calls do, in one word each -/
def cOp (V : Nat → Nat → Int32) (nk ns : Nat) (x set : Int32) (kk : Int32) (V' : Nat → Nat → Int32) (v : Int32) : Prop := (zoo ns x ∧ kk = 1 ∧ zKo V V') ∨ ((∃ si, si < ns ∧ x = nI si) ∧ zsetok nk set = false ∧ kk = 2 ∧ zKo V V') ∨ (∃ si, si < ns ∧ x = nI si ∧ zsetok nk set = true ∧ kk = 0 ∧ zOp V V' nk si set x (some (.int v)))
def cFl (V : Nat → Nat → Int32) (nk ns : Nat) (x : Int32) (kk : Int32) (V' : Nat → Nat → Int32) (v : Int32) : Prop := (zin x 0 3 = false ∧ kk = 1 ∧ zKo V V') ∨ (zin x 0 3 = true ∧ kk = 0 ∧ v = zgone V ns x nk ∧ ∃ V2, zFd V V2 ns x nk ∧ zEn V2 V' 2 x (V2 0 0))
def cFs (V : Nat → Nat → Int32) (nk ns : Nat) (x set : Int32) (kk : Int32) (V' : Nat → Nat → Int32) (v : Int32) : Prop := (zoo ns x ∧ kk = 1 ∧ zKo V V') ∨ (∃ si, si < ns ∧ x = nI si ∧ ((zsetok nk set = false ∧ kk = 2 ∧ zKo V V') ∨ (zsetok nk set = true ∧ zbc (set &&& zset (zcur (V (400 + si)) (V (200 + si) 3)) 8) < V (200 + si) 0 ∧ kk = 3 ∧ zKo V V') ∨ (zsetok nk set = true ∧ ¬ zbc (set &&& zset (zcur (V (400 + si)) (V (200 + si) 3)) 8) < V (200 + si) 0 ∧ kk = 0 ∧ zFs V V' si (set &&& zset (zcur (V (400 + si)) (V (200 + si) 3)) 8) x (some (.int v)))))
def cRb (V : Nat → Nat → Int32) (nk ns : Nat) (x k w : Int32) (kk : Int32) (V' : Nat → Nat → Int32) (v : Int32) : Prop := ((zoo ns x ∨ zoo nk k) ∧ kk = 1 ∧ zKo V V') ∨ (∃ si, si < ns ∧ x = nI si ∧ ∃ ki, ki < nk ∧ k = nI ki ∧ ((zsetok nk w = false ∧ kk = 2 ∧ zKo V V') ∨ (zsetok nk w = true ∧ (zcur (V (400 + si)) (V (200 + si) 3) ki = true ∨ (zcur (V (400 + si)) (V (200 + si) 3) ki = false ∧ ∃ V4, zDd V V4 nk si w ∧ zgood_ (V4 12 0) (V4 12 1) (V4 12 3) = false)) ∧ kk = 3 ∧ zKo V V') ∨ (zsetok nk w = true ∧ zcur (V (400 + si)) (V (200 + si) 3) ki = false ∧ kk = 0 ∧ zRb V V' nk si ki w x (some (.int v)))))

theorem d_La_pass_0 : decode c_La_pass 0 = .ok (.aload_n 2, 1) := by decide +kernel
theorem d_La_pass_1 : decode c_La_pass 1 = .ok (.aload_n 0, 1) := by decide +kernel
theorem d_La_pass_2 : decode c_La_pass 2 = .ok (.iload_n 1, 1) := by decide +kernel
theorem d_La_pass_3 : decode c_La_pass 3 = .ok (.invokevirtual 47, 3) := by decide +kernel
theorem d_La_pass_6 : decode c_La_pass 6 = .ok (.i2l, 1) := by decide +kernel
theorem d_La_pass_7 : decode c_La_pass 7 = .ok (.putfield 13, 3) := by decide +kernel
theorem d_La_pass_10 : decode c_La_pass 10 = .ok (.goto 9, 3) := by decide +kernel
theorem d_La_pass_13 : decode c_La_pass 13 = .ok (.astore_n 3, 1) := by decide +kernel
theorem d_La_pass_14 : decode c_La_pass 14 = .ok (.iconst 1, 1) := by decide +kernel
theorem d_La_pass_15 : decode c_La_pass 15 = .ok (.ireturn, 1) := by decide +kernel
theorem d_La_pass_16 : decode c_La_pass 16 = .ok (.astore_n 3, 1) := by decide +kernel
theorem d_La_pass_17 : decode c_La_pass 17 = .ok (.iconst 2, 1) := by decide +kernel
theorem d_La_pass_18 : decode c_La_pass 18 = .ok (.ireturn, 1) := by decide +kernel
theorem d_La_pass_19 : decode c_La_pass 19 = .ok (.iconst 0, 1) := by decide +kernel
theorem d_La_pass_20 : decode c_La_pass 20 = .ok (.ireturn, 1) := by decide +kernel
set_option maxHeartbeats 4000000 in
set_option maxRecDepth 100000 in
theorem m_La_pass {g0 : State} {d : zD} {l : Launch} {a0 : Array Value} (hs0 : zS0 d a0 g0) (hst : l.stackTraces = false) {G : zG} {A : Nat → Nat} {D : Nat → UInt64} {V : Nat → Nat → Int32} {nk ns : Nat} (hT : zT d A D V nk ns G) (hNc : zNc g0) {ho : Nat} (hO : zOut ho G) (ho1 : ∀ r, tlive nk ns r → A r ≠ ho) (x : Int32) : zMetW g0 d l y_La_pass c_La_pass 4 ((Option.some Jvm.ClassFile.FieldType.int)) ([((0 : Nat), (10 : Nat), (13 : Nat), (19 : Nat)), ((0 : Nat), (10 : Nat), (16 : Nat), (21 : Nat))]) 9 5 116 [.ref (A 0), .int x, .ref ho] (G) (fun r G1 => (zin x 1 365 = false ∧ r = some (.int 1) ∧ zT d A D V nk ns G1 ∧ zOut ho G1 ∧ lFr A nk ns ho G G1) ∨ (zin x 1 365 = true ∧ 999 < V 0 0 + x ∧ r = some (.int 2) ∧ zT d A D V nk ns G1 ∧ zOut ho G1 ∧ lFr A nk ns ho G G1) ∨ (zin x 1 365 = true ∧ ¬ 999 < V 0 0 + x ∧ r = some (.int 0) ∧ zT d A D (rset V 0 (z4 (V 0 0 + x) (V 0 1) (V 0 2) (V 0 3))) nk ns G1 ∧ zOn ho (V 0 0 + x).toInt64 G1 ∧ lFr A nk ns ho G G1)) (zNo) := by
  have hG_Tb := hT.tb
  have hnk : nk ≤ 8 := hT.2.1
  have hns : ns ≤ 6 := hT.2.2.1
  obtain ⟨on, ox, oy, hOe⟩ := id hO
  refine z_entryW hs0 hst (by decide) (Nat.le_of_ble_eq_true rfl) (fun p e s m args below meth c => ?_)
  refine z_aload_n 2 d_La_pass_0 rfl rfl ?_
  refine z_aload_n 0 d_La_pass_1 rfl rfl ?_
  refine z_iload_n 1 d_La_pass_2 rfl rfl ?_
  refine z_callV (m_Tb_pass hs0 hst hT x) ym_Tb_pass qM_La_47 qI_Tb_pass qV_Tb_Tb_pass zc_Tb hT.tb d_La_pass_3 rfl (Nat.le_of_ble_eq_true rfl) ⟨by decide, by decide⟩ ⟨Nat.le_of_ble_eq_true rfl, Nat.le_of_ble_eq_true rfl⟩ ?_ ?_
  · intro E G9 hx
    obtain ⟨hx0, hx⟩ := hx
    obtain rfl : G = G9 := hx0.symm
    rcases hx with ⟨h1, rfl⟩ | ⟨h1, h2, rfl⟩
    · refine z_catch [] ⟨0, 10, 13, 19⟩ [⟨0, 10, 16, 21⟩] rfl (fun _ h => nomatch h) rfl (by decide) qK_La_19 qT_IAE_IAE (fun q9 => ?_)
      refine z_astore_n (L' := [(3, _), (0, _), (1, _), (2, _)]) d_La_pass_13 rfl (by decide) rfl ?_
      refine z_iconst (v := 1) d_La_pass_14 (by decide) ?_
      exact z_iret rfl (by first | exact Or.inl ⟨h1, rfl, hT, hO, fun _ _ h _ _ => h⟩ | exact Or.inr (Or.inl ⟨h1, h2, rfl, hT, hO, fun _ _ h _ _ => h⟩) | exact Or.inr (Or.inr ⟨h1, h2, rfl, hT3.out ho1, ⟨_, _, zu_s⟩, (lFr.of hF3).nw⟩)) (by first | decide | omega) (by first | decide | omega) d_La_pass_15
    · refine z_catch [⟨0, 10, 13, 19⟩] ⟨0, 10, 16, 21⟩ [] rfl (fun z hz => by
        simp only [List.mem_cons, List.not_mem_nil, or_false] at hz
        rcases hz with rfl
        · exact Or.inr ⟨by decide, _, qK_La_19, hNc.ISE_IAE⟩) rfl (by decide) qK_La_21 qT_ISE_ISE (fun q9 => ?_)
      refine z_astore_n (L' := [(3, _), (0, _), (1, _), (2, _)]) d_La_pass_16 rfl (by decide) rfl ?_
      refine z_iconst (v := 2) d_La_pass_17 (by decide) ?_
      exact z_iret rfl (by first | exact Or.inl ⟨h1, rfl, hT, hO, fun _ _ h _ _ => h⟩ | exact Or.inr (Or.inl ⟨h1, h2, rfl, hT, hO, fun _ _ h _ _ => h⟩) | exact Or.inr (Or.inr ⟨h1, h2, rfl, hT3.out ho1, ⟨_, _, zu_s⟩, (lFr.of hF3).nw⟩)) (by first | decide | omega) (by first | decide | omega) d_La_pass_18
  intro r_3 G_3 hp_3
  obtain ⟨h1, h2, hr, hT3, hF3⟩ := hp_3
  obtain rfl := hr
  have hG_Ou := hF3 _ _ hOe (fun r hr => (ho1 r hr).symm)
  refine z_i2l d_La_pass_6 rfl ?_
  refine z_putN zc_Ou 0 (by decide) qFn_La_13 hG_Ou rfl rfl rfl (Nat.le_of_ble_eq_true rfl) d_La_pass_7 ?_
  refine z_goto 19 d_La_pass_10 (by decide) ?_
  refine z_iconst (v := 0) d_La_pass_19 (by decide) ?_
  exact z_iret rfl (by first | exact Or.inl ⟨h1, rfl, hT, hO, fun _ _ h _ _ => h⟩ | exact Or.inr (Or.inl ⟨h1, h2, rfl, hT, hO, fun _ _ h _ _ => h⟩) | exact Or.inr (Or.inr ⟨h1, h2, rfl, hT3.out ho1, ⟨_, _, zu_s⟩, (lFr.of hF3).nw⟩)) (by first | decide | omega) (by first | decide | omega) d_La_pass_20
theorem d_La_lie_0 : decode c_La_lie 0 = .ok (.aload_n 3, 1) := by decide +kernel
theorem d_La_lie_1 : decode c_La_lie 1 = .ok (.aload_n 0, 1) := by decide +kernel
theorem d_La_lie_2 : decode c_La_lie 2 = .ok (.iload_n 1, 1) := by decide +kernel
theorem d_La_lie_3 : decode c_La_lie 3 = .ok (.iload_n 2, 1) := by decide +kernel
theorem d_La_lie_4 : decode c_La_lie 4 = .ok (.invokevirtual 23, 3) := by decide +kernel
theorem d_La_lie_7 : decode c_La_lie 7 = .ok (.i2l, 1) := by decide +kernel
theorem d_La_lie_8 : decode c_La_lie 8 = .ok (.putfield 13, 3) := by decide +kernel
theorem d_La_lie_11 : decode c_La_lie 11 = .ok (.goto 11, 3) := by decide +kernel
theorem d_La_lie_14 : decode c_La_lie 14 = .ok (.astore 4, 2) := by decide +kernel
theorem d_La_lie_16 : decode c_La_lie 16 = .ok (.iconst 1, 1) := by decide +kernel
theorem d_La_lie_17 : decode c_La_lie 17 = .ok (.ireturn, 1) := by decide +kernel
theorem d_La_lie_18 : decode c_La_lie 18 = .ok (.astore 4, 2) := by decide +kernel
theorem d_La_lie_20 : decode c_La_lie 20 = .ok (.iconst 2, 1) := by decide +kernel
theorem d_La_lie_21 : decode c_La_lie 21 = .ok (.ireturn, 1) := by decide +kernel
theorem d_La_lie_22 : decode c_La_lie 22 = .ok (.iconst 0, 1) := by decide +kernel
theorem d_La_lie_23 : decode c_La_lie 23 = .ok (.ireturn, 1) := by decide +kernel
set_option maxHeartbeats 4000000 in
set_option maxRecDepth 100000 in
theorem m_La_lie {g0 : State} {d : zD} {l : Launch} {a0 : Array Value} (hs0 : zS0 d a0 g0) (hst : l.stackTraces = false) {G : zG} {A : Nat → Nat} {D : Nat → UInt64} {V : Nat → Nat → Int32} {nk ns : Nat} (hT : zT d A D V nk ns G) (hNc : zNc g0) {ho : Nat} (hO : zOut ho G) (ho1 : ∀ r, tlive nk ns r → A r ≠ ho) (x : Int32) (w : Int32) : zMetW g0 d l y_La_lie c_La_lie 5 ((Option.some Jvm.ClassFile.FieldType.int)) ([((0 : Nat), (11 : Nat), (14 : Nat), (27 : Nat)), ((0 : Nat), (11 : Nat), (18 : Nat), (19 : Nat))]) 13 5 116 [.ref (A 0), .int x, .int w, .ref ho] (G) (fun r G1 => ((x < 0 ∨ nI nk ≤ x) ∧ r = some (.int 1) ∧ zT d A D V nk ns G1 ∧ zOut ho G1 ∧ lFr A nk ns ho G G1) ∨ ((∃ k, k < nk ∧ x = nI k) ∧ zin w 0 96 = false ∧ r = some (.int 2) ∧ zT d A D V nk ns G1 ∧ zOut ho G1 ∧ lFr A nk ns ho G G1) ∨ (∃ k, k < nk ∧ x = nI k ∧ zin w 0 96 = true ∧ r = some (.int 0) ∧ zT d A D (rset V (100 + k) (upd (V (100 + k)) 4 w)) nk ns G1 ∧ zOn ho (V (100 + k) 4).toInt64 G1 ∧ lFr A nk ns ho G G1)) (zNo) := by
  have hG_Tb := hT.tb
  have hnk : nk ≤ 8 := hT.2.1
  have hns : ns ≤ 6 := hT.2.2.1
  obtain ⟨on, ox, oy, hOe⟩ := id hO
  refine z_entryW hs0 hst (by decide) (Nat.le_of_ble_eq_true rfl) (fun p e s m args below meth c => ?_)
  refine z_aload_n 3 d_La_lie_0 rfl rfl ?_
  refine z_aload_n 0 d_La_lie_1 rfl rfl ?_
  refine z_iload_n 1 d_La_lie_2 rfl rfl ?_
  refine z_iload_n 2 d_La_lie_3 rfl rfl ?_
  refine z_callV (m_Tb_lie hs0 hst hT x w) ym_Tb_lie qM_La_23 qI_Tb_lie qV_Tb_Tb_lie zc_Tb hT.tb d_La_lie_4 rfl (Nat.le_of_ble_eq_true rfl) ⟨by decide, by decide⟩ ⟨Nat.le_of_ble_eq_true rfl, Nat.le_of_ble_eq_true rfl⟩ ?_ ?_
  · intro E G9 hx
    obtain ⟨hx0, hx⟩ := hx
    obtain rfl : G = G9 := hx0.symm
    rcases hx with ⟨h1, rfl⟩ | ⟨h1, h2, rfl⟩
    · refine z_catch [] ⟨0, 11, 14, 27⟩ [⟨0, 11, 18, 19⟩] rfl (fun _ h => nomatch h) rfl (by decide) qK_La_27 qT_IOE_IOE (fun q9 => ?_)
      refine z_astore (L' := [(4, _), (0, _), (1, _), (2, _), (3, _)]) d_La_lie_14 (by decide) rfl ?_
      refine z_iconst (v := 1) d_La_lie_16 (by decide) ?_
      exact z_iret rfl (by first | exact Or.inl ⟨h1, rfl, hT, hO, fun _ _ h _ _ => h⟩ | exact Or.inr (Or.inl ⟨h2, h1, rfl, hT, hO, fun _ _ h _ _ => h⟩) | exact Or.inr (Or.inr ⟨k, hk, ex, h2, rfl, hT3.out ho1, ⟨_, _, zu_s⟩, (lFr.of hF3).nw⟩)) (by first | decide | omega) (by first | decide | omega) d_La_lie_17
    · refine z_catch [⟨0, 11, 14, 27⟩] ⟨0, 11, 18, 19⟩ [] rfl (fun z hz => by
        simp only [List.mem_cons, List.not_mem_nil, or_false] at hz
        rcases hz with rfl
        · exact Or.inr ⟨by decide, _, qK_La_27, hNc.IAE_IOE⟩) rfl (by decide) qK_La_19 qT_IAE_IAE (fun q9 => ?_)
      refine z_astore (L' := [(4, _), (0, _), (1, _), (2, _), (3, _)]) d_La_lie_18 (by decide) rfl ?_
      refine z_iconst (v := 2) d_La_lie_20 (by decide) ?_
      exact z_iret rfl (by first | exact Or.inl ⟨h1, rfl, hT, hO, fun _ _ h _ _ => h⟩ | exact Or.inr (Or.inl ⟨h2, h1, rfl, hT, hO, fun _ _ h _ _ => h⟩) | exact Or.inr (Or.inr ⟨k, hk, ex, h2, rfl, hT3.out ho1, ⟨_, _, zu_s⟩, (lFr.of hF3).nw⟩)) (by first | decide | omega) (by first | decide | omega) d_La_lie_21
  intro r_4 G_4 hp_4
  obtain ⟨k, hk, ex, h2, hr, hT3, hF3⟩ := hp_4
  obtain rfl := hr
  have hG_Ou := hF3 _ _ hOe (fun r hr => (ho1 r hr).symm)
  refine z_i2l d_La_lie_7 rfl ?_
  refine z_putN zc_Ou 0 (by decide) qFn_La_13 hG_Ou rfl rfl rfl (Nat.le_of_ble_eq_true rfl) d_La_lie_8 ?_
  refine z_goto 22 d_La_lie_11 (by decide) ?_
  refine z_iconst (v := 0) d_La_lie_22 (by decide) ?_
  exact z_iret rfl (by first | exact Or.inl ⟨h1, rfl, hT, hO, fun _ _ h _ _ => h⟩ | exact Or.inr (Or.inl ⟨h2, h1, rfl, hT, hO, fun _ _ h _ _ => h⟩) | exact Or.inr (Or.inr ⟨k, hk, ex, h2, rfl, hT3.out ho1, ⟨_, _, zu_s⟩, (lFr.of hF3).nw⟩)) (by first | decide | omega) (by first | decide | omega) d_La_lie_23
theorem d_La_freeze_0 : decode c_La_freeze 0 = .ok (.aload 4, 2) := by decide +kernel
theorem d_La_freeze_2 : decode c_La_freeze 2 = .ok (.aload_n 0, 1) := by decide +kernel
theorem d_La_freeze_3 : decode c_La_freeze 3 = .ok (.iload_n 1, 1) := by decide +kernel
theorem d_La_freeze_4 : decode c_La_freeze 4 = .ok (.iload_n 2, 1) := by decide +kernel
theorem d_La_freeze_5 : decode c_La_freeze 5 = .ok (.iload_n 3, 1) := by decide +kernel
theorem d_La_freeze_6 : decode c_La_freeze 6 = .ok (.invokevirtual 43, 3) := by decide +kernel
theorem d_La_freeze_9 : decode c_La_freeze 9 = .ok (.i2l, 1) := by decide +kernel
theorem d_La_freeze_10 : decode c_La_freeze 10 = .ok (.putfield 13, 3) := by decide +kernel
theorem d_La_freeze_13 : decode c_La_freeze 13 = .ok (.goto 7, 3) := by decide +kernel
theorem d_La_freeze_16 : decode c_La_freeze 16 = .ok (.astore 5, 2) := by decide +kernel
theorem d_La_freeze_18 : decode c_La_freeze 18 = .ok (.iconst 1, 1) := by decide +kernel
theorem d_La_freeze_19 : decode c_La_freeze 19 = .ok (.ireturn, 1) := by decide +kernel
theorem d_La_freeze_20 : decode c_La_freeze 20 = .ok (.iconst 0, 1) := by decide +kernel
theorem d_La_freeze_21 : decode c_La_freeze 21 = .ok (.ireturn, 1) := by decide +kernel
set_option maxHeartbeats 4000000 in
set_option maxRecDepth 100000 in
theorem m_La_freeze {g0 : State} {d : zD} {l : Launch} {a0 : Array Value} (hs0 : zS0 d a0 g0) (hst : l.stackTraces = false) {G : zG} {A : Nat → Nat} {D : Nat → UInt64} {V : Nat → Nat → Int32} {nk ns : Nat} (hT : zT d A D V nk ns G) (hNc : zNc g0) {ho : Nat} (hO : zOut ho G) (ho1 : ∀ r, tlive nk ns r → A r ≠ ho) (x : Int32) (w : Int32) (x3 : Int32) : zMetW g0 d l y_La_freeze c_La_freeze 6 ((Option.some Jvm.ClassFile.FieldType.int)) ([((0 : Nat), (13 : Nat), (16 : Nat), (27 : Nat))]) 13 5 116 [.ref (A 0), .int x, .int w, .int x3, .ref ho] (G) (fun r G1 => ((zin x 0 1 = false ∨ w < 0 ∨ nI ns ≤ w) ∧ r = some (.int 1) ∧ zT d A D V nk ns G1 ∧ zOut ho G1 ∧ lFr A nk ns ho G G1) ∨ (∃ k, k < ns ∧ w = nI k ∧ zin x 0 1 = true ∧ r = some (.int 0) ∧ zT d A D (rset V (200 + k) (z6 (V (200 + k)) (V (200 + k) 3) (if x3 = 0 then V (200 + k) 4 &&& ((1 <<< (x &&& 31)) ^^^ (-1)) else V (200 + k) 4 ||| (1 <<< (x &&& 31))) (V (200 + k) 5))) nk ns G1 ∧ zOn ho (zbc (if x3 = 0 then V (200 + k) 4 &&& ((1 <<< (x &&& 31)) ^^^ (-1)) else V (200 + k) 4 ||| (1 <<< (x &&& 31)))).toInt64 G1 ∧ lFr A nk ns ho G G1)) (zNo) := by
  have hG_Tb := hT.tb
  have hnk : nk ≤ 8 := hT.2.1
  have hns : ns ≤ 6 := hT.2.2.1
  obtain ⟨on, ox, oy, hOe⟩ := id hO
  refine z_entryW hs0 hst (by decide) (Nat.le_of_ble_eq_true rfl) (fun p e s m args below meth c => ?_)
  refine z_aload 4 d_La_freeze_0 rfl ?_
  refine z_aload_n 0 d_La_freeze_2 rfl rfl ?_
  refine z_iload_n 1 d_La_freeze_3 rfl rfl ?_
  refine z_iload_n 2 d_La_freeze_4 rfl rfl ?_
  refine z_iload_n 3 d_La_freeze_5 rfl rfl ?_
  refine z_callV (m_Tb_freeze hs0 hst hT x w x3) ym_Tb_freeze qM_La_43 qI_Tb_freeze qV_Tb_Tb_freeze zc_Tb hT.tb d_La_freeze_6 rfl (Nat.le_of_ble_eq_true rfl) ⟨by decide, by decide⟩ ⟨Nat.le_of_ble_eq_true rfl, Nat.le_of_ble_eq_true rfl⟩ ?_ ?_
  · intro E G9 hx
    obtain ⟨hx0, h1, rfl⟩ := hx
    obtain rfl : G = G9 := hx0.symm
    skip
    · refine z_catch [] ⟨0, 13, 16, 27⟩ [] rfl (fun _ h => nomatch h) rfl (by decide) qK_La_27 qT_IOE_IOE (fun q9 => ?_)
      refine z_astore (L' := [(5, _), (0, _), (1, _), (2, _), (3, _), (4, _)]) d_La_freeze_16 (by decide) rfl ?_
      refine z_iconst (v := 1) d_La_freeze_18 (by decide) ?_
      exact z_iret rfl (by first | exact Or.inl ⟨h1, rfl, hT, hO, fun _ _ h _ _ => h⟩ | exact Or.inr ⟨k, hk, ex, h2, rfl, hT3.out ho1, ⟨_, _, zu_s⟩, (lFr.of hF3).nw⟩) (by first | decide | omega) (by first | decide | omega) d_La_freeze_19
  intro r_6 G_6 hp_6
  obtain ⟨k, hk, ex, h2, hr, hT3, hF3⟩ := hp_6
  obtain rfl := hr
  have hG_Ou := hF3 _ _ hOe (fun r hr => (ho1 r hr).symm)
  refine z_i2l d_La_freeze_9 rfl ?_
  refine z_putN zc_Ou 0 (by decide) qFn_La_13 hG_Ou rfl rfl rfl (Nat.le_of_ble_eq_true rfl) d_La_freeze_10 ?_
  refine z_goto 20 d_La_freeze_13 (by decide) ?_
  refine z_iconst (v := 0) d_La_freeze_20 (by decide) ?_
  exact z_iret rfl (by first | exact Or.inl ⟨h1, rfl, hT, hO, fun _ _ h _ _ => h⟩ | exact Or.inr ⟨k, hk, ex, h2, rfl, hT3.out ho1, ⟨_, _, zu_s⟩, (lFr.of hF3).nw⟩) (by first | decide | omega) (by first | decide | omega) d_La_freeze_21
theorem d_La_keeper_0 : decode c_La_keeper 0 = .ok (.aload 4, 2) := by decide +kernel
theorem d_La_keeper_2 : decode c_La_keeper 2 = .ok (.aload_n 0, 1) := by decide +kernel
theorem d_La_keeper_3 : decode c_La_keeper 3 = .ok (.iload_n 1, 1) := by decide +kernel
theorem d_La_keeper_4 : decode c_La_keeper 4 = .ok (.iload_n 2, 1) := by decide +kernel
theorem d_La_keeper_5 : decode c_La_keeper 5 = .ok (.iload_n 3, 1) := by decide +kernel
theorem d_La_keeper_6 : decode c_La_keeper 6 = .ok (.invokevirtual 7, 3) := by decide +kernel
theorem d_La_keeper_9 : decode c_La_keeper 9 = .ok (.i2l, 1) := by decide +kernel
theorem d_La_keeper_10 : decode c_La_keeper 10 = .ok (.putfield 13, 3) := by decide +kernel
theorem d_La_keeper_13 : decode c_La_keeper 13 = .ok (.goto 11, 3) := by decide +kernel
theorem d_La_keeper_16 : decode c_La_keeper 16 = .ok (.astore 5, 2) := by decide +kernel
theorem d_La_keeper_18 : decode c_La_keeper 18 = .ok (.iconst 1, 1) := by decide +kernel
theorem d_La_keeper_19 : decode c_La_keeper 19 = .ok (.ireturn, 1) := by decide +kernel
theorem d_La_keeper_20 : decode c_La_keeper 20 = .ok (.astore 5, 2) := by decide +kernel
theorem d_La_keeper_22 : decode c_La_keeper 22 = .ok (.iconst 2, 1) := by decide +kernel
theorem d_La_keeper_23 : decode c_La_keeper 23 = .ok (.ireturn, 1) := by decide +kernel
theorem d_La_keeper_24 : decode c_La_keeper 24 = .ok (.iconst 0, 1) := by decide +kernel
theorem d_La_keeper_25 : decode c_La_keeper 25 = .ok (.ireturn, 1) := by decide +kernel
set_option maxHeartbeats 4000000 in
set_option maxRecDepth 100000 in
theorem m_La_keeper {g0 : State} {d : zD} {l : Launch} {a0 : Array Value} (hs0 : zS0 d a0 g0) (hst : l.stackTraces = false) {G : zG} {A : Nat → Nat} {D : Nat → UInt64} {V : Nat → Nat → Int32} {nk ns : Nat} (hT : zT d A D V nk ns G) (hNc : zNc g0) {ho : Nat} (hO : zOut ho G) (ho1 : ∀ r, tlive nk ns r → A r ≠ ho) (x : Int32) (z : Int32) (w : Int32) : zMetW g0 d l y_La_keeper c_La_keeper 6 ((Option.some Jvm.ClassFile.FieldType.int)) ([((0 : Nat), (13 : Nat), (16 : Nat), (19 : Nat)), ((0 : Nat), (13 : Nat), (20 : Nat), (21 : Nat))]) 12 5 116 [.ref (A 0), .int x, .int z, .int w, .ref ho] (G) (fun r G1 => (zkok x z w = false ∧ r = some (.int 1) ∧ zT d A D V nk ns G1 ∧ zOut ho G1 ∧ lFr A nk ns ho G G1) ∨ (zkok x z w = true ∧ nk = 8 ∧ r = some (.int 2) ∧ zT d A D V nk ns G1 ∧ zOut ho G1 ∧ lFr A nk ns ho G G1) ∨ (zkok x z w = true ∧ nk < 8 ∧ r = some (.int 0) ∧ ∃ A', zNw A A' nk ns (nk + 1) ns G ∧ zT d A' D (rset (rset V (100 + nk) (z6k (nI nk) x z w)) 1 (fun _ => V 1 0 + 1)) (nk + 1) ns G1 ∧ zOn ho (nI nk).toInt64 G1 ∧ lFr A nk ns ho G G1)) (zNo) := by
  have hG_Tb := hT.tb
  have hnk : nk ≤ 8 := hT.2.1
  have hns : ns ≤ 6 := hT.2.2.1
  obtain ⟨on, ox, oy, hOe⟩ := id hO
  refine z_entryW hs0 hst (by decide) (Nat.le_of_ble_eq_true rfl) (fun p e s m args below meth c => ?_)
  refine z_aload 4 d_La_keeper_0 rfl ?_
  refine z_aload_n 0 d_La_keeper_2 rfl rfl ?_
  refine z_iload_n 1 d_La_keeper_3 rfl rfl ?_
  refine z_iload_n 2 d_La_keeper_4 rfl rfl ?_
  refine z_iload_n 3 d_La_keeper_5 rfl rfl ?_
  refine z_callV ((m_Tb_keeperM hs0 hst hT x z w)) ym_Tb_keeper qM_La_7 qI_Tb_keeper qV_Tb_Tb_keeper zc_Tb hT.tb d_La_keeper_6 rfl (Nat.le_of_ble_eq_true rfl) ⟨by decide, by decide⟩ ⟨Nat.le_of_ble_eq_true rfl, Nat.le_of_ble_eq_true rfl⟩ ?_ ?_
  · intro E G9 hx
    obtain ⟨hx0, hx⟩ := hx
    obtain rfl : G = G9 := hx0.symm
    rcases hx with ⟨h1, rfl⟩ | ⟨h1, h2, rfl⟩
    · refine z_catch [] ⟨0, 13, 16, 19⟩ [⟨0, 13, 20, 21⟩] rfl (fun _ h => nomatch h) rfl (by decide) qK_La_19 qT_IAE_IAE (fun q9 => ?_)
      refine z_astore (L' := [(5, _), (0, _), (1, _), (2, _), (3, _), (4, _)]) d_La_keeper_16 (by decide) rfl ?_
      refine z_iconst (v := 1) d_La_keeper_18 (by decide) ?_
      exact z_iret rfl (by first | exact Or.inl ⟨h1, rfl, hT, hO, fun _ _ h _ _ => h⟩ | exact Or.inr (Or.inl ⟨h1, h2, rfl, hT, hO, fun _ _ h _ _ => h⟩) | exact Or.inr (Or.inr ⟨h1, h2, rfl, A', hN, hT3.out (hN.ho ho1 hOe), ⟨_, _, zu_s⟩, (lFr.of hF3).nw⟩)) (by first | decide | omega) (by first | decide | omega) d_La_keeper_19
    · refine z_catch [⟨0, 13, 16, 19⟩] ⟨0, 13, 20, 21⟩ [] rfl (fun z hz => by
        simp only [List.mem_cons, List.not_mem_nil, or_false] at hz
        rcases hz with rfl
        · exact Or.inr ⟨by decide, _, qK_La_19, hNc.ISE_IAE⟩) rfl (by decide) qK_La_21 qT_ISE_ISE (fun q9 => ?_)
      refine z_astore (L' := [(5, _), (0, _), (1, _), (2, _), (3, _), (4, _)]) d_La_keeper_20 (by decide) rfl ?_
      refine z_iconst (v := 2) d_La_keeper_22 (by decide) ?_
      exact z_iret rfl (by first | exact Or.inl ⟨h1, rfl, hT, hO, fun _ _ h _ _ => h⟩ | exact Or.inr (Or.inl ⟨h1, h2, rfl, hT, hO, fun _ _ h _ _ => h⟩) | exact Or.inr (Or.inr ⟨h1, h2, rfl, A', hN, hT3.out (hN.ho ho1 hOe), ⟨_, _, zu_s⟩, (lFr.of hF3).nw⟩)) (by first | decide | omega) (by first | decide | omega) d_La_keeper_23
  intro r_6 G_6 hp_6
  obtain ⟨h1, h2, hr, A', hN, hT3, hF3⟩ := hp_6
  obtain rfl := hr
  have hG_Ou := hF3 _ _ hOe (fun r hr => (ho1 r hr).symm)
  refine z_i2l d_La_keeper_9 rfl ?_
  refine z_putN zc_Ou 0 (by decide) qFn_La_13 hG_Ou rfl rfl rfl (Nat.le_of_ble_eq_true rfl) d_La_keeper_10 ?_
  refine z_goto 24 d_La_keeper_13 (by decide) ?_
  refine z_iconst (v := 0) d_La_keeper_24 (by decide) ?_
  exact z_iret rfl (by first | exact Or.inl ⟨h1, rfl, hT, hO, fun _ _ h _ _ => h⟩ | exact Or.inr (Or.inl ⟨h1, h2, rfl, hT, hO, fun _ _ h _ _ => h⟩) | exact Or.inr (Or.inr ⟨h1, h2, rfl, A', hN, hT3.out (hN.ho ho1 hOe), ⟨_, _, zu_s⟩, (lFr.of hF3).nw⟩)) (by first | decide | omega) (by first | decide | omega) d_La_keeper_25
theorem d_La_deal_0 : decode c_La_deal 0 = .ok (.aload 6, 2) := by decide +kernel
theorem d_La_deal_2 : decode c_La_deal 2 = .ok (.aload_n 0, 1) := by decide +kernel
theorem d_La_deal_3 : decode c_La_deal 3 = .ok (.iload_n 1, 1) := by decide +kernel
theorem d_La_deal_4 : decode c_La_deal 4 = .ok (.iload_n 2, 1) := by decide +kernel
theorem d_La_deal_5 : decode c_La_deal 5 = .ok (.iload_n 3, 1) := by decide +kernel
theorem d_La_deal_6 : decode c_La_deal 6 = .ok (.iload 4, 2) := by decide +kernel
theorem d_La_deal_8 : decode c_La_deal 8 = .ok (.iload 5, 2) := by decide +kernel
theorem d_La_deal_10 : decode c_La_deal 10 = .ok (.invokevirtual 29, 3) := by decide +kernel
theorem d_La_deal_13 : decode c_La_deal 13 = .ok (.i2l, 1) := by decide +kernel
theorem d_La_deal_14 : decode c_La_deal 14 = .ok (.putfield 13, 3) := by decide +kernel
theorem d_La_deal_17 : decode c_La_deal 17 = .ok (.goto 11, 3) := by decide +kernel
theorem d_La_deal_20 : decode c_La_deal 20 = .ok (.astore 7, 2) := by decide +kernel
theorem d_La_deal_22 : decode c_La_deal 22 = .ok (.iconst 1, 1) := by decide +kernel
theorem d_La_deal_23 : decode c_La_deal 23 = .ok (.ireturn, 1) := by decide +kernel
theorem d_La_deal_24 : decode c_La_deal 24 = .ok (.astore 7, 2) := by decide +kernel
theorem d_La_deal_26 : decode c_La_deal 26 = .ok (.iconst 2, 1) := by decide +kernel
theorem d_La_deal_27 : decode c_La_deal 27 = .ok (.ireturn, 1) := by decide +kernel
theorem d_La_deal_28 : decode c_La_deal 28 = .ok (.iconst 0, 1) := by decide +kernel
theorem d_La_deal_29 : decode c_La_deal 29 = .ok (.ireturn, 1) := by decide +kernel
set_option maxHeartbeats 4000000 in
set_option maxRecDepth 100000 in
theorem m_La_deal {g0 : State} {d : zD} {l : Launch} {a0 : Array Value} (hs0 : zS0 d a0 g0) (hst : l.stackTraces = false) {G : zG} {A : Nat → Nat} {D : Nat → UInt64} {V : Nat → Nat → Int32} {nk ns : Nat} (hT : zT d A D V nk ns G) (hNc : zNc g0) {ho : Nat} (hO : zOut ho G) (ho1 : ∀ r, tlive nk ns r → A r ≠ ho) (x : Int32) (t : Int32) (z : Int32) (dt : Int32) (set : Int32) : zMetW g0 d l y_La_deal c_La_deal 8 ((Option.some Jvm.ClassFile.FieldType.int)) ([((0 : Nat), (17 : Nat), (20 : Nat), (19 : Nat)), ((0 : Nat), (17 : Nat), (24 : Nat), (21 : Nat))]) 13 5 116 [.ref (A 0), .int x, .int t, .int z, .int dt, .int set, .ref ho] (G) (fun r G1 => (zdok nk x t z dt set = false ∧ r = some (.int 1) ∧ zT d A D V nk ns G1 ∧ zOut ho G1 ∧ lFr A nk ns ho G G1) ∨ (zdok nk x t z dt set = true ∧ ns = 6 ∧ r = some (.int 2) ∧ zT d A D V nk ns G1 ∧ zOut ho G1 ∧ lFr A nk ns ho G G1) ∨ (zdok nk x t z dt set = true ∧ ns < 6 ∧ r = some (.int 0) ∧ ∃ A' V', zNw A A' nk ns nk (ns + 1) G ∧ zT d A' D V' nk (ns + 1) G1 ∧ zDl V V' ns x t z dt set ∧ zOn ho (nI ns).toInt64 G1 ∧ lFr A nk ns ho G G1)) (zNo) := by
  have hG_Tb := hT.tb
  have hnk : nk ≤ 8 := hT.2.1
  have hns : ns ≤ 6 := hT.2.2.1
  obtain ⟨on, ox, oy, hOe⟩ := id hO
  refine z_entryW hs0 hst (by decide) (Nat.le_of_ble_eq_true rfl) (fun p e s m args below meth c => ?_)
  refine z_aload 6 d_La_deal_0 rfl ?_
  refine z_aload_n 0 d_La_deal_2 rfl rfl ?_
  refine z_iload_n 1 d_La_deal_3 rfl rfl ?_
  refine z_iload_n 2 d_La_deal_4 rfl rfl ?_
  refine z_iload_n 3 d_La_deal_5 rfl rfl ?_
  refine z_iload 4 d_La_deal_6 rfl ?_
  refine z_iload 5 d_La_deal_8 rfl ?_
  refine z_callV ((m_Tb_dealME hs0 hst hT x t z dt set)) ym_Tb_deal qM_La_29 qI_Tb_deal qV_Tb_Tb_deal zc_Tb hT.tb d_La_deal_10 rfl (Nat.le_of_ble_eq_true rfl) ⟨by decide, by decide⟩ ⟨Nat.le_of_ble_eq_true rfl, Nat.le_of_ble_eq_true rfl⟩ ?_ ?_
  · intro E G9 hx
    obtain ⟨hx0, hx⟩ := hx
    obtain rfl : G = G9 := hx0.symm
    rcases hx with ⟨h1, rfl⟩ | ⟨h1, h2, rfl⟩
    · refine z_catch [] ⟨0, 17, 20, 19⟩ [⟨0, 17, 24, 21⟩] rfl (fun _ h => nomatch h) rfl (by decide) qK_La_19 qT_IAE_IAE (fun q9 => ?_)
      refine z_astore (L' := [(7, _), (0, _), (1, _), (2, _), (3, _), (4, _), (5, _), (6, _)]) d_La_deal_20 (by decide) rfl ?_
      refine z_iconst (v := 1) d_La_deal_22 (by decide) ?_
      exact z_iret rfl (by first | exact Or.inl ⟨h1, rfl, hT, hO, fun _ _ h _ _ => h⟩ | exact Or.inr (Or.inl ⟨h1, h2, rfl, hT, hO, fun _ _ h _ _ => h⟩) | exact Or.inr (Or.inr ⟨h1, h2, rfl, A', V', hN, hT3.out (hN.ho ho1 hOe), hk3, ⟨_, _, zu_s⟩, (lFr.of hF3).nw⟩)) (by first | decide | omega) (by first | decide | omega) d_La_deal_23
    · refine z_catch [⟨0, 17, 20, 19⟩] ⟨0, 17, 24, 21⟩ [] rfl (fun z hz => by
        simp only [List.mem_cons, List.not_mem_nil, or_false] at hz
        rcases hz with rfl
        · exact Or.inr ⟨by decide, _, qK_La_19, hNc.ISE_IAE⟩) rfl (by decide) qK_La_21 qT_ISE_ISE (fun q9 => ?_)
      refine z_astore (L' := [(7, _), (0, _), (1, _), (2, _), (3, _), (4, _), (5, _), (6, _)]) d_La_deal_24 (by decide) rfl ?_
      refine z_iconst (v := 2) d_La_deal_26 (by decide) ?_
      exact z_iret rfl (by first | exact Or.inl ⟨h1, rfl, hT, hO, fun _ _ h _ _ => h⟩ | exact Or.inr (Or.inl ⟨h1, h2, rfl, hT, hO, fun _ _ h _ _ => h⟩) | exact Or.inr (Or.inr ⟨h1, h2, rfl, A', V', hN, hT3.out (hN.ho ho1 hOe), hk3, ⟨_, _, zu_s⟩, (lFr.of hF3).nw⟩)) (by first | decide | omega) (by first | decide | omega) d_La_deal_27
  intro r_10 G_10 hp_10
  obtain ⟨h1, h2, hr, A', V', hN, hT3, hk3, hF3⟩ := hp_10
  obtain rfl := hr
  have hG_Ou := hF3 _ _ hOe (fun r hr => (ho1 r hr).symm)
  refine z_i2l d_La_deal_13 rfl ?_
  refine z_putN zc_Ou 0 (by decide) qFn_La_13 hG_Ou rfl rfl rfl (Nat.le_of_ble_eq_true rfl) d_La_deal_14 ?_
  refine z_goto 28 d_La_deal_17 (by decide) ?_
  refine z_iconst (v := 0) d_La_deal_28 (by decide) ?_
  exact z_iret rfl (by first | exact Or.inl ⟨h1, rfl, hT, hO, fun _ _ h _ _ => h⟩ | exact Or.inr (Or.inl ⟨h1, h2, rfl, hT, hO, fun _ _ h _ _ => h⟩) | exact Or.inr (Or.inr ⟨h1, h2, rfl, A', V', hN, hT3.out (hN.ho ho1 hOe), hk3, ⟨_, _, zu_s⟩, (lFr.of hF3).nw⟩)) (by first | decide | omega) (by first | decide | omega) d_La_deal_29
theorem d_La_open_0 : decode c_La_open 0 = .ok (.aload_n 3, 1) := by decide +kernel
theorem d_La_open_1 : decode c_La_open 1 = .ok (.aload_n 0, 1) := by decide +kernel
theorem d_La_open_2 : decode c_La_open 2 = .ok (.iload_n 1, 1) := by decide +kernel
theorem d_La_open_3 : decode c_La_open 3 = .ok (.iload_n 2, 1) := by decide +kernel
theorem d_La_open_4 : decode c_La_open 4 = .ok (.invokevirtual 50, 3) := by decide +kernel
theorem d_La_open_7 : decode c_La_open 7 = .ok (.i2l, 1) := by decide +kernel
theorem d_La_open_8 : decode c_La_open 8 = .ok (.putfield 13, 3) := by decide +kernel
theorem d_La_open_11 : decode c_La_open 11 = .ok (.goto 11, 3) := by decide +kernel
theorem d_La_open_14 : decode c_La_open 14 = .ok (.astore 4, 2) := by decide +kernel
theorem d_La_open_16 : decode c_La_open 16 = .ok (.iconst 1, 1) := by decide +kernel
theorem d_La_open_17 : decode c_La_open 17 = .ok (.ireturn, 1) := by decide +kernel
theorem d_La_open_18 : decode c_La_open 18 = .ok (.astore 4, 2) := by decide +kernel
theorem d_La_open_20 : decode c_La_open 20 = .ok (.iconst 2, 1) := by decide +kernel
theorem d_La_open_21 : decode c_La_open 21 = .ok (.ireturn, 1) := by decide +kernel
theorem d_La_open_22 : decode c_La_open 22 = .ok (.iconst 0, 1) := by decide +kernel
theorem d_La_open_23 : decode c_La_open 23 = .ok (.ireturn, 1) := by decide +kernel
set_option maxHeartbeats 4000000 in
set_option maxRecDepth 100000 in
theorem m_La_open {g0 : State} {d : zD} {l : Launch} {a0 : Array Value} (hs0 : zS0 d a0 g0) (hst : l.stackTraces = false) {G : zG} {A : Nat → Nat} {D : Nat → UInt64} {V : Nat → Nat → Int32} {nk ns : Nat} (hT : zT d A D V nk ns G) (hNc : zNc g0) {ho : Nat} (hO : zOut ho G) (ho1 : ∀ r, tlive nk ns r → A r ≠ ho) (x : Int32) (set : Int32) : zMetW g0 d l y_La_open c_La_open 5 ((Option.some Jvm.ClassFile.FieldType.int)) ([((0 : Nat), (11 : Nat), (14 : Nat), (27 : Nat)), ((0 : Nat), (11 : Nat), (18 : Nat), (19 : Nat))]) 14 5 116 [.ref (A 0), .int x, .int set, .ref ho] (G) (lTe d A nk ns ho G (cOp V nk ns x set)) (zNo) := by
  have hG_Tb := hT.tb
  have hnk : nk ≤ 8 := hT.2.1
  have hns : ns ≤ 6 := hT.2.2.1
  obtain ⟨on, ox, oy, hOe⟩ := id hO
  refine z_entryW hs0 hst (by decide) (Nat.le_of_ble_eq_true rfl) (fun p e s m args below meth c => ?_)
  refine z_aload_n 3 d_La_open_0 rfl rfl ?_
  refine z_aload_n 0 d_La_open_1 rfl rfl ?_
  refine z_iload_n 1 d_La_open_2 rfl rfl ?_
  refine z_iload_n 2 d_La_open_3 rfl rfl ?_
  refine z_callV ((m_Tb_openE hs0 hst hT x set)) ym_Tb_open qM_La_50 qI_Tb_open qV_Tb_Tb_open zc_Tb hT.tb d_La_open_4 rfl (Nat.le_of_ble_eq_true rfl) ⟨by decide, by decide⟩ ⟨Nat.le_of_ble_eq_true rfl, Nat.le_of_ble_eq_true rfl⟩ ?_ ?_
  · intro E G9 hx
    obtain ⟨hx, D4, V4, hT4, hK4, hF4⟩ := hx
    rcases hx with ⟨h1, rfl⟩ | ⟨h0, h1, rfl⟩
    · refine z_catch [] ⟨0, 11, 14, 27⟩ [⟨0, 11, 18, 19⟩] rfl (fun _ h => nomatch h) rfl (by decide) qK_La_27 qT_IOE_IOE (fun q9 => ?_)
      refine z_astore (L' := [(4, _), (0, _), (1, _), (2, _), (3, _)]) d_La_open_14 (by decide) rfl ?_
      refine z_iconst (v := 1) d_La_open_16 (by decide) ?_
      exact z_iret rfl (by first | exact lTe.r hT3 hF3 ho1 (Or.inr (Or.inr ⟨si, hsi, ex, hs, rfl, hop⟩)) | exact lTe.x (by decide) hT4 hF4 hO ho1 (Or.inl ⟨h1, rfl, hK4⟩) | exact lTe.x (by decide) hT4 hF4 hO ho1 (Or.inr (Or.inl ⟨h0, h1, rfl, hK4⟩))) (by first | decide | omega) (by first | decide | omega) d_La_open_17
    · refine z_catch [⟨0, 11, 14, 27⟩] ⟨0, 11, 18, 19⟩ [] rfl (fun z hz => by
        simp only [List.mem_cons, List.not_mem_nil, or_false] at hz
        rcases hz with rfl
        · exact Or.inr ⟨by decide, _, qK_La_27, hNc.IAE_IOE⟩) rfl (by decide) qK_La_19 qT_IAE_IAE (fun q9 => ?_)
      refine z_astore (L' := [(4, _), (0, _), (1, _), (2, _), (3, _)]) d_La_open_18 (by decide) rfl ?_
      refine z_iconst (v := 2) d_La_open_20 (by decide) ?_
      exact z_iret rfl (by first | exact lTe.r hT3 hF3 ho1 (Or.inr (Or.inr ⟨si, hsi, ex, hs, rfl, hop⟩)) | exact lTe.x (by decide) hT4 hF4 hO ho1 (Or.inl ⟨h1, rfl, hK4⟩) | exact lTe.x (by decide) hT4 hF4 hO ho1 (Or.inr (Or.inl ⟨h0, h1, rfl, hK4⟩))) (by first | decide | omega) (by first | decide | omega) d_La_open_21
  intro r_4 G_4 hp_4
  obtain ⟨si, hsi, ex, hs, V3, hT3, hop, hF3⟩ := hp_4
  obtain ⟨v9, rfl⟩ := hop.v
  have hG_Ou := hF3 _ _ hOe (fun r hr => (ho1 r hr).symm)
  refine z_i2l d_La_open_7 rfl ?_
  refine z_putN zc_Ou 0 (by decide) qFn_La_13 hG_Ou rfl rfl rfl (Nat.le_of_ble_eq_true rfl) d_La_open_8 ?_
  refine z_goto 22 d_La_open_11 (by decide) ?_
  refine z_iconst (v := 0) d_La_open_22 (by decide) ?_
  exact z_iret rfl (by first | exact lTe.r hT3 hF3 ho1 (Or.inr (Or.inr ⟨si, hsi, ex, hs, rfl, hop⟩)) | exact lTe.x (by decide) hT4 hF4 hO ho1 (Or.inl ⟨h1, rfl, hK4⟩) | exact lTe.x (by decide) hT4 hF4 hO ho1 (Or.inr (Or.inl ⟨h0, h1, rfl, hK4⟩))) (by first | decide | omega) (by first | decide | omega) d_La_open_23
theorem d_La_flood_0 : decode c_La_flood 0 = .ok (.aload_n 2, 1) := by decide +kernel
theorem d_La_flood_1 : decode c_La_flood 1 = .ok (.aload_n 0, 1) := by decide +kernel
theorem d_La_flood_2 : decode c_La_flood 2 = .ok (.iload_n 1, 1) := by decide +kernel
theorem d_La_flood_3 : decode c_La_flood 3 = .ok (.invokevirtual 36, 3) := by decide +kernel
theorem d_La_flood_6 : decode c_La_flood 6 = .ok (.i2l, 1) := by decide +kernel
theorem d_La_flood_7 : decode c_La_flood 7 = .ok (.putfield 13, 3) := by decide +kernel
theorem d_La_flood_10 : decode c_La_flood 10 = .ok (.goto 6, 3) := by decide +kernel
theorem d_La_flood_13 : decode c_La_flood 13 = .ok (.astore_n 3, 1) := by decide +kernel
theorem d_La_flood_14 : decode c_La_flood 14 = .ok (.iconst 1, 1) := by decide +kernel
theorem d_La_flood_15 : decode c_La_flood 15 = .ok (.ireturn, 1) := by decide +kernel
theorem d_La_flood_16 : decode c_La_flood 16 = .ok (.iconst 0, 1) := by decide +kernel
theorem d_La_flood_17 : decode c_La_flood 17 = .ok (.ireturn, 1) := by decide +kernel
set_option maxHeartbeats 4000000 in
set_option maxRecDepth 100000 in
theorem m_La_flood {g0 : State} {d : zD} {l : Launch} {a0 : Array Value} (hs0 : zS0 d a0 g0) (hst : l.stackTraces = false) {G : zG} {A : Nat → Nat} {D : Nat → UInt64} {V : Nat → Nat → Int32} {nk ns : Nat} (hT : zT d A D V nk ns G) (hNc : zNc g0) {ho : Nat} (hO : zOut ho G) (ho1 : ∀ r, tlive nk ns r → A r ≠ ho) (x : Int32) : zMetW g0 d l y_La_flood c_La_flood 4 ((Option.some Jvm.ClassFile.FieldType.int)) ([((0 : Nat), (10 : Nat), (13 : Nat), (27 : Nat))]) 13 5 116 [.ref (A 0), .int x, .ref ho] (G) (lTe d A nk ns ho G (cFl V nk ns x)) (zNo) := by
  have hG_Tb := hT.tb
  have hnk : nk ≤ 8 := hT.2.1
  have hns : ns ≤ 6 := hT.2.2.1
  obtain ⟨on, ox, oy, hOe⟩ := id hO
  refine z_entryW hs0 hst (by decide) (Nat.le_of_ble_eq_true rfl) (fun p e s m args below meth c => ?_)
  refine z_aload_n 2 d_La_flood_0 rfl rfl ?_
  refine z_aload_n 0 d_La_flood_1 rfl rfl ?_
  refine z_iload_n 1 d_La_flood_2 rfl rfl ?_
  refine z_callV ((m_Tb_floodE hs0 hst hT x)) ym_Tb_flood qM_La_36 qI_Tb_flood qV_Tb_Tb_flood zc_Tb hT.tb d_La_flood_3 rfl (Nat.le_of_ble_eq_true rfl) ⟨by decide, by decide⟩ ⟨Nat.le_of_ble_eq_true rfl, Nat.le_of_ble_eq_true rfl⟩ ?_ ?_
  · intro E G9 hx
    obtain ⟨⟨h1, rfl⟩, D4, V4, hT4, hK4, hF4⟩ := hx
    skip
    · refine z_catch [] ⟨0, 10, 13, 27⟩ [] rfl (fun _ h => nomatch h) rfl (by decide) qK_La_27 qT_IOE_IOE (fun q9 => ?_)
      refine z_astore_n (L' := [(3, _), (0, _), (1, _), (2, _)]) d_La_flood_13 rfl (by decide) rfl ?_
      refine z_iconst (v := 1) d_La_flood_14 (by decide) ?_
      exact z_iret rfl (by first | exact lTe.r hT3 hF3 ho1 (Or.inr ⟨hz, rfl, rfl, V2, hfd, hen⟩) | exact lTe.x (by decide) hT4 hF4 hO ho1 (Or.inl ⟨h1, rfl, hK4⟩)) (by first | decide | omega) (by first | decide | omega) d_La_flood_15
  intro r_3 G_3 hp_3
  obtain ⟨hz, V2, V3, hT3, hfd, hen, rfl, hF3⟩ := hp_3
  have hG_Ou := hF3 _ _ hOe (fun r hr => (ho1 r hr).symm)
  refine z_i2l d_La_flood_6 rfl ?_
  refine z_putN zc_Ou 0 (by decide) qFn_La_13 hG_Ou rfl rfl rfl (Nat.le_of_ble_eq_true rfl) d_La_flood_7 ?_
  refine z_goto 16 d_La_flood_10 (by decide) ?_
  refine z_iconst (v := 0) d_La_flood_16 (by decide) ?_
  exact z_iret rfl (by first | exact lTe.r hT3 hF3 ho1 (Or.inr ⟨hz, rfl, rfl, V2, hfd, hen⟩) | exact lTe.x (by decide) hT4 hF4 hO ho1 (Or.inl ⟨h1, rfl, hK4⟩)) (by first | decide | omega) (by first | decide | omega) d_La_flood_17
theorem d_La_fresh_0 : decode c_La_fresh 0 = .ok (.aload_n 3, 1) := by decide +kernel
theorem d_La_fresh_1 : decode c_La_fresh 1 = .ok (.aload_n 0, 1) := by decide +kernel
theorem d_La_fresh_2 : decode c_La_fresh 2 = .ok (.iload_n 1, 1) := by decide +kernel
theorem d_La_fresh_3 : decode c_La_fresh 3 = .ok (.iload_n 2, 1) := by decide +kernel
theorem d_La_fresh_4 : decode c_La_fresh 4 = .ok (.invokevirtual 33, 3) := by decide +kernel
theorem d_La_fresh_7 : decode c_La_fresh 7 = .ok (.i2l, 1) := by decide +kernel
theorem d_La_fresh_8 : decode c_La_fresh 8 = .ok (.putfield 13, 3) := by decide +kernel
theorem d_La_fresh_11 : decode c_La_fresh 11 = .ok (.goto 15, 3) := by decide +kernel
theorem d_La_fresh_14 : decode c_La_fresh 14 = .ok (.astore 4, 2) := by decide +kernel
theorem d_La_fresh_16 : decode c_La_fresh 16 = .ok (.iconst 1, 1) := by decide +kernel
theorem d_La_fresh_17 : decode c_La_fresh 17 = .ok (.ireturn, 1) := by decide +kernel
theorem d_La_fresh_18 : decode c_La_fresh 18 = .ok (.astore 4, 2) := by decide +kernel
theorem d_La_fresh_20 : decode c_La_fresh 20 = .ok (.iconst 2, 1) := by decide +kernel
theorem d_La_fresh_21 : decode c_La_fresh 21 = .ok (.ireturn, 1) := by decide +kernel
theorem d_La_fresh_22 : decode c_La_fresh 22 = .ok (.astore 4, 2) := by decide +kernel
theorem d_La_fresh_24 : decode c_La_fresh 24 = .ok (.iconst 3, 1) := by decide +kernel
theorem d_La_fresh_25 : decode c_La_fresh 25 = .ok (.ireturn, 1) := by decide +kernel
theorem d_La_fresh_26 : decode c_La_fresh 26 = .ok (.iconst 0, 1) := by decide +kernel
theorem d_La_fresh_27 : decode c_La_fresh 27 = .ok (.ireturn, 1) := by decide +kernel
set_option maxHeartbeats 4000000 in
set_option maxRecDepth 100000 in
theorem m_La_fresh {g0 : State} {d : zD} {l : Launch} {a0 : Array Value} (hs0 : zS0 d a0 g0) (hst : l.stackTraces = false) {G : zG} {A : Nat → Nat} {D : Nat → UInt64} {V : Nat → Nat → Int32} {nk ns : Nat} (hT : zT d A D V nk ns G) (hNc : zNc g0) {ho : Nat} (hO : zOut ho G) (ho1 : ∀ r, tlive nk ns r → A r ≠ ho) (x : Int32) (set : Int32) : zMetW g0 d l y_La_fresh c_La_fresh 5 ((Option.some Jvm.ClassFile.FieldType.int)) ([((0 : Nat), (11 : Nat), (14 : Nat), (27 : Nat)), ((0 : Nat), (11 : Nat), (18 : Nat), (19 : Nat)), ((0 : Nat), (11 : Nat), (22 : Nat), (21 : Nat))]) 13 5 116 [.ref (A 0), .int x, .int set, .ref ho] (G) (lTe d A nk ns ho G (cFs V nk ns x set)) (zNo) := by
  have hG_Tb := hT.tb
  have hnk : nk ≤ 8 := hT.2.1
  have hns : ns ≤ 6 := hT.2.2.1
  obtain ⟨on, ox, oy, hOe⟩ := id hO
  refine z_entryW hs0 hst (by decide) (Nat.le_of_ble_eq_true rfl) (fun p e s m args below meth c => ?_)
  refine z_aload_n 3 d_La_fresh_0 rfl rfl ?_
  refine z_aload_n 0 d_La_fresh_1 rfl rfl ?_
  refine z_iload_n 1 d_La_fresh_2 rfl rfl ?_
  refine z_iload_n 2 d_La_fresh_3 rfl rfl ?_
  refine z_callV ((m_Tb_freshE hs0 hst hT x set)) ym_Tb_fresh qM_La_33 qI_Tb_fresh qV_Tb_Tb_fresh zc_Tb hT.tb d_La_fresh_4 rfl (Nat.le_of_ble_eq_true rfl) ⟨by decide, by decide⟩ ⟨Nat.le_of_ble_eq_true rfl, Nat.le_of_ble_eq_true rfl⟩ ?_ ?_
  · intro E G9 hx
    obtain ⟨hx, D4, V4, hT4, hK4, hF4⟩ := hx
    rcases hx with ⟨h1, rfl⟩ | ⟨si, hsi, ex, ⟨h1, rfl⟩ | ⟨h1, h2, rfl⟩⟩
    · refine z_catch [] ⟨0, 11, 14, 27⟩ [⟨0, 11, 18, 19⟩, ⟨0, 11, 22, 21⟩] rfl (fun _ h => nomatch h) rfl (by decide) qK_La_27 qT_IOE_IOE (fun q9 => ?_)
      refine z_astore (L' := [(4, _), (0, _), (1, _), (2, _), (3, _)]) d_La_fresh_14 (by decide) rfl ?_
      refine z_iconst (v := 1) d_La_fresh_16 (by decide) ?_
      exact z_iret rfl (by first | exact lTe.r hT3 hF3 ho1 (Or.inr ⟨si, hsi, ex, Or.inr (Or.inr ⟨hs, hz, rfl, hfs⟩)⟩) | exact lTe.x (by decide) hT4 hF4 hO ho1 (Or.inr ⟨si, hsi, ex, Or.inr (Or.inl ⟨h1, h2, rfl, hK4⟩)⟩) | exact lTe.x (by decide) hT4 hF4 hO ho1 (Or.inr ⟨si, hsi, ex, Or.inl ⟨h1, rfl, hK4⟩⟩) | exact lTe.x (by decide) hT4 hF4 hO ho1 (Or.inl ⟨h1, rfl, hK4⟩)) (by first | decide | omega) (by first | decide | omega) d_La_fresh_17
    · refine z_catch [⟨0, 11, 14, 27⟩] ⟨0, 11, 18, 19⟩ [⟨0, 11, 22, 21⟩] rfl (fun z hz => by
        simp only [List.mem_cons, List.not_mem_nil, or_false] at hz
        rcases hz with rfl
        · exact Or.inr ⟨by decide, _, qK_La_27, hNc.IAE_IOE⟩) rfl (by decide) qK_La_19 qT_IAE_IAE (fun q9 => ?_)
      refine z_astore (L' := [(4, _), (0, _), (1, _), (2, _), (3, _)]) d_La_fresh_18 (by decide) rfl ?_
      refine z_iconst (v := 2) d_La_fresh_20 (by decide) ?_
      exact z_iret rfl (by first | exact lTe.r hT3 hF3 ho1 (Or.inr ⟨si, hsi, ex, Or.inr (Or.inr ⟨hs, hz, rfl, hfs⟩)⟩) | exact lTe.x (by decide) hT4 hF4 hO ho1 (Or.inr ⟨si, hsi, ex, Or.inr (Or.inl ⟨h1, h2, rfl, hK4⟩)⟩) | exact lTe.x (by decide) hT4 hF4 hO ho1 (Or.inr ⟨si, hsi, ex, Or.inl ⟨h1, rfl, hK4⟩⟩) | exact lTe.x (by decide) hT4 hF4 hO ho1 (Or.inl ⟨h1, rfl, hK4⟩)) (by first | decide | omega) (by first | decide | omega) d_La_fresh_21
    · refine z_catch [⟨0, 11, 14, 27⟩, ⟨0, 11, 18, 19⟩] ⟨0, 11, 22, 21⟩ [] rfl (fun z hz => by
        simp only [List.mem_cons, List.not_mem_nil, or_false] at hz
        rcases hz with rfl | rfl
        · exact Or.inr ⟨by decide, _, qK_La_27, hNc.ISE_IOE⟩
        · exact Or.inr ⟨by decide, _, qK_La_19, hNc.ISE_IAE⟩) rfl (by decide) qK_La_21 qT_ISE_ISE (fun q9 => ?_)
      refine z_astore (L' := [(4, _), (0, _), (1, _), (2, _), (3, _)]) d_La_fresh_22 (by decide) rfl ?_
      refine z_iconst (v := 3) d_La_fresh_24 (by decide) ?_
      exact z_iret rfl (by first | exact lTe.r hT3 hF3 ho1 (Or.inr ⟨si, hsi, ex, Or.inr (Or.inr ⟨hs, hz, rfl, hfs⟩)⟩) | exact lTe.x (by decide) hT4 hF4 hO ho1 (Or.inr ⟨si, hsi, ex, Or.inr (Or.inl ⟨h1, h2, rfl, hK4⟩)⟩) | exact lTe.x (by decide) hT4 hF4 hO ho1 (Or.inr ⟨si, hsi, ex, Or.inl ⟨h1, rfl, hK4⟩⟩) | exact lTe.x (by decide) hT4 hF4 hO ho1 (Or.inl ⟨h1, rfl, hK4⟩)) (by first | decide | omega) (by first | decide | omega) d_La_fresh_25
  intro r_4 G_4 hp_4
  obtain ⟨si, hsi, ex, hs, hz, V3, hT3, hfs, hF3⟩ := hp_4
  obtain ⟨v9, rfl⟩ := hfs.v
  have hG_Ou := hF3 _ _ hOe (fun r hr => (ho1 r hr).symm)
  refine z_i2l d_La_fresh_7 rfl ?_
  refine z_putN zc_Ou 0 (by decide) qFn_La_13 hG_Ou rfl rfl rfl (Nat.le_of_ble_eq_true rfl) d_La_fresh_8 ?_
  refine z_goto 26 d_La_fresh_11 (by decide) ?_
  refine z_iconst (v := 0) d_La_fresh_26 (by decide) ?_
  exact z_iret rfl (by first | exact lTe.r hT3 hF3 ho1 (Or.inr ⟨si, hsi, ex, Or.inr (Or.inr ⟨hs, hz, rfl, hfs⟩)⟩) | exact lTe.x (by decide) hT4 hF4 hO ho1 (Or.inr ⟨si, hsi, ex, Or.inr (Or.inl ⟨h1, h2, rfl, hK4⟩)⟩) | exact lTe.x (by decide) hT4 hF4 hO ho1 (Or.inr ⟨si, hsi, ex, Or.inl ⟨h1, rfl, hK4⟩⟩) | exact lTe.x (by decide) hT4 hF4 hO ho1 (Or.inl ⟨h1, rfl, hK4⟩)) (by first | decide | omega) (by first | decide | omega) d_La_fresh_27
theorem d_La_rebuild_0 : decode c_La_rebuild 0 = .ok (.aload 4, 2) := by decide +kernel
theorem d_La_rebuild_2 : decode c_La_rebuild 2 = .ok (.aload_n 0, 1) := by decide +kernel
theorem d_La_rebuild_3 : decode c_La_rebuild 3 = .ok (.iload_n 1, 1) := by decide +kernel
theorem d_La_rebuild_4 : decode c_La_rebuild 4 = .ok (.iload_n 2, 1) := by decide +kernel
theorem d_La_rebuild_5 : decode c_La_rebuild 5 = .ok (.iload_n 3, 1) := by decide +kernel
theorem d_La_rebuild_6 : decode c_La_rebuild 6 = .ok (.invokevirtual 40, 3) := by decide +kernel
theorem d_La_rebuild_9 : decode c_La_rebuild 9 = .ok (.i2l, 1) := by decide +kernel
theorem d_La_rebuild_10 : decode c_La_rebuild 10 = .ok (.putfield 13, 3) := by decide +kernel
theorem d_La_rebuild_13 : decode c_La_rebuild 13 = .ok (.goto 15, 3) := by decide +kernel
theorem d_La_rebuild_16 : decode c_La_rebuild 16 = .ok (.astore 5, 2) := by decide +kernel
theorem d_La_rebuild_18 : decode c_La_rebuild 18 = .ok (.iconst 1, 1) := by decide +kernel
theorem d_La_rebuild_19 : decode c_La_rebuild 19 = .ok (.ireturn, 1) := by decide +kernel
theorem d_La_rebuild_20 : decode c_La_rebuild 20 = .ok (.astore 5, 2) := by decide +kernel
theorem d_La_rebuild_22 : decode c_La_rebuild 22 = .ok (.iconst 2, 1) := by decide +kernel
theorem d_La_rebuild_23 : decode c_La_rebuild 23 = .ok (.ireturn, 1) := by decide +kernel
theorem d_La_rebuild_24 : decode c_La_rebuild 24 = .ok (.astore 5, 2) := by decide +kernel
theorem d_La_rebuild_26 : decode c_La_rebuild 26 = .ok (.iconst 3, 1) := by decide +kernel
theorem d_La_rebuild_27 : decode c_La_rebuild 27 = .ok (.ireturn, 1) := by decide +kernel
theorem d_La_rebuild_28 : decode c_La_rebuild 28 = .ok (.iconst 0, 1) := by decide +kernel
theorem d_La_rebuild_29 : decode c_La_rebuild 29 = .ok (.ireturn, 1) := by decide +kernel
set_option maxHeartbeats 4000000 in
set_option maxRecDepth 100000 in
theorem m_La_rebuild {g0 : State} {d : zD} {l : Launch} {a0 : Array Value} (hs0 : zS0 d a0 g0) (hst : l.stackTraces = false) {G : zG} {A : Nat → Nat} {D : Nat → UInt64} {V : Nat → Nat → Int32} {nk ns : Nat} (hT : zT d A D V nk ns G) (hNc : zNc g0) {ho : Nat} (hO : zOut ho G) (ho1 : ∀ r, tlive nk ns r → A r ≠ ho) (x : Int32) (k : Int32) (w : Int32) : zMetW g0 d l y_La_rebuild c_La_rebuild 6 ((Option.some Jvm.ClassFile.FieldType.int)) ([((0 : Nat), (13 : Nat), (16 : Nat), (27 : Nat)), ((0 : Nat), (13 : Nat), (20 : Nat), (19 : Nat)), ((0 : Nat), (13 : Nat), (24 : Nat), (21 : Nat))]) 13 5 116 [.ref (A 0), .int x, .int k, .int w, .ref ho] (G) (lTe d A nk ns ho G (cRb V nk ns x k w)) (zNo) := by
  have hG_Tb := hT.tb
  have hnk : nk ≤ 8 := hT.2.1
  have hns : ns ≤ 6 := hT.2.2.1
  obtain ⟨on, ox, oy, hOe⟩ := id hO
  refine z_entryW hs0 hst (by decide) (Nat.le_of_ble_eq_true rfl) (fun p e s m args below meth c => ?_)
  refine z_aload 4 d_La_rebuild_0 rfl ?_
  refine z_aload_n 0 d_La_rebuild_2 rfl rfl ?_
  refine z_iload_n 1 d_La_rebuild_3 rfl rfl ?_
  refine z_iload_n 2 d_La_rebuild_4 rfl rfl ?_
  refine z_iload_n 3 d_La_rebuild_5 rfl rfl ?_
  refine z_callV ((m_Tb_rebuildE hs0 hst hT x k w)) ym_Tb_rebuild qM_La_40 qI_Tb_rebuild qV_Tb_Tb_rebuild zc_Tb hT.tb d_La_rebuild_6 rfl (Nat.le_of_ble_eq_true rfl) ⟨by decide, by decide⟩ ⟨Nat.le_of_ble_eq_true rfl, Nat.le_of_ble_eq_true rfl⟩ ?_ ?_
  · intro E G9 hx
    obtain ⟨hx, D4, V4, hT4, hK4, hF4⟩ := hx
    rcases hx with ⟨h1, rfl⟩ | ⟨si, hsi, ex, ki, hki, ek, ⟨h1, rfl⟩ | ⟨h1, h2, rfl⟩⟩
    · refine z_catch [] ⟨0, 13, 16, 27⟩ [⟨0, 13, 20, 19⟩, ⟨0, 13, 24, 21⟩] rfl (fun _ h => nomatch h) rfl (by decide) qK_La_27 qT_IOE_IOE (fun q9 => ?_)
      refine z_astore (L' := [(5, _), (0, _), (1, _), (2, _), (3, _), (4, _)]) d_La_rebuild_16 (by decide) rfl ?_
      refine z_iconst (v := 1) d_La_rebuild_18 (by decide) ?_
      exact z_iret rfl (by first | exact lTe.r hT3 hF3 ho1 (Or.inr ⟨si, hsi, ex, ki, hki, ek, Or.inr (Or.inr ⟨hs, hz, rfl, hrb⟩)⟩) | exact lTe.x (by decide) hT4 hF4 hO ho1 (Or.inr ⟨si, hsi, ex, ki, hki, ek, Or.inr (Or.inl ⟨h1, h2, rfl, hK4⟩)⟩) | exact lTe.x (by decide) hT4 hF4 hO ho1 (Or.inr ⟨si, hsi, ex, ki, hki, ek, Or.inl ⟨h1, rfl, hK4⟩⟩) | exact lTe.x (by decide) hT4 hF4 hO ho1 (Or.inl ⟨h1, rfl, hK4⟩)) (by first | decide | omega) (by first | decide | omega) d_La_rebuild_19
    · refine z_catch [⟨0, 13, 16, 27⟩] ⟨0, 13, 20, 19⟩ [⟨0, 13, 24, 21⟩] rfl (fun z hz => by
        simp only [List.mem_cons, List.not_mem_nil, or_false] at hz
        rcases hz with rfl
        · exact Or.inr ⟨by decide, _, qK_La_27, hNc.IAE_IOE⟩) rfl (by decide) qK_La_19 qT_IAE_IAE (fun q9 => ?_)
      refine z_astore (L' := [(5, _), (0, _), (1, _), (2, _), (3, _), (4, _)]) d_La_rebuild_20 (by decide) rfl ?_
      refine z_iconst (v := 2) d_La_rebuild_22 (by decide) ?_
      exact z_iret rfl (by first | exact lTe.r hT3 hF3 ho1 (Or.inr ⟨si, hsi, ex, ki, hki, ek, Or.inr (Or.inr ⟨hs, hz, rfl, hrb⟩)⟩) | exact lTe.x (by decide) hT4 hF4 hO ho1 (Or.inr ⟨si, hsi, ex, ki, hki, ek, Or.inr (Or.inl ⟨h1, h2, rfl, hK4⟩)⟩) | exact lTe.x (by decide) hT4 hF4 hO ho1 (Or.inr ⟨si, hsi, ex, ki, hki, ek, Or.inl ⟨h1, rfl, hK4⟩⟩) | exact lTe.x (by decide) hT4 hF4 hO ho1 (Or.inl ⟨h1, rfl, hK4⟩)) (by first | decide | omega) (by first | decide | omega) d_La_rebuild_23
    · refine z_catch [⟨0, 13, 16, 27⟩, ⟨0, 13, 20, 19⟩] ⟨0, 13, 24, 21⟩ [] rfl (fun z hz => by
        simp only [List.mem_cons, List.not_mem_nil, or_false] at hz
        rcases hz with rfl | rfl
        · exact Or.inr ⟨by decide, _, qK_La_27, hNc.ISE_IOE⟩
        · exact Or.inr ⟨by decide, _, qK_La_19, hNc.ISE_IAE⟩) rfl (by decide) qK_La_21 qT_ISE_ISE (fun q9 => ?_)
      refine z_astore (L' := [(5, _), (0, _), (1, _), (2, _), (3, _), (4, _)]) d_La_rebuild_24 (by decide) rfl ?_
      refine z_iconst (v := 3) d_La_rebuild_26 (by decide) ?_
      exact z_iret rfl (by first | exact lTe.r hT3 hF3 ho1 (Or.inr ⟨si, hsi, ex, ki, hki, ek, Or.inr (Or.inr ⟨hs, hz, rfl, hrb⟩)⟩) | exact lTe.x (by decide) hT4 hF4 hO ho1 (Or.inr ⟨si, hsi, ex, ki, hki, ek, Or.inr (Or.inl ⟨h1, h2, rfl, hK4⟩)⟩) | exact lTe.x (by decide) hT4 hF4 hO ho1 (Or.inr ⟨si, hsi, ex, ki, hki, ek, Or.inl ⟨h1, rfl, hK4⟩⟩) | exact lTe.x (by decide) hT4 hF4 hO ho1 (Or.inl ⟨h1, rfl, hK4⟩)) (by first | decide | omega) (by first | decide | omega) d_La_rebuild_27
  intro r_6 G_6 hp_6
  obtain ⟨si, hsi, ex, ki, hki, ek, hs, hz, V3, hT3, hrb, hF3⟩ := hp_6
  obtain ⟨v9, rfl⟩ := hrb.v
  have hG_Ou := hF3 _ _ hOe (fun r hr => (ho1 r hr).symm)
  refine z_i2l d_La_rebuild_9 rfl ?_
  refine z_putN zc_Ou 0 (by decide) qFn_La_13 hG_Ou rfl rfl rfl (Nat.le_of_ble_eq_true rfl) d_La_rebuild_10 ?_
  refine z_goto 28 d_La_rebuild_13 (by decide) ?_
  refine z_iconst (v := 0) d_La_rebuild_28 (by decide) ?_
  exact z_iret rfl (by first | exact lTe.r hT3 hF3 ho1 (Or.inr ⟨si, hsi, ex, ki, hki, ek, Or.inr (Or.inr ⟨hs, hz, rfl, hrb⟩)⟩) | exact lTe.x (by decide) hT4 hF4 hO ho1 (Or.inr ⟨si, hsi, ex, ki, hki, ek, Or.inr (Or.inl ⟨h1, h2, rfl, hK4⟩)⟩) | exact lTe.x (by decide) hT4 hF4 hO ho1 (Or.inr ⟨si, hsi, ex, ki, hki, ek, Or.inl ⟨h1, rfl, hK4⟩⟩) | exact lTe.x (by decide) hT4 hF4 hO ho1 (Or.inl ⟨h1, rfl, hK4⟩)) (by first | decide | omega) (by first | decide | omega) d_La_rebuild_29
