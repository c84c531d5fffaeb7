
section GM
variable {d : zD} {A : Nat → Nat} {D : Nat → UInt64} {V W W1 : Nat → Nat → Int32} {nk ns ne ne1 N : Nat} {G G1 : zG} {r : Option Value} {E : String}
theorem gin1 {q n : Nat} (y1 : 1 ≤ q) (y2 : q ≤ n) (y3 : n < 2 ^ 31) : zin (nI q) 1 (nI n) = true := by
  show (decide (nI 1 ≤ nI q) && decide (nI q ≤ nI n)) = true
  rw [decide_eq_true ((nI_leI (a := 1) (b := q) (by decide) (by omega)).mpr y1), decide_eq_true ((nI_leI (by omega) y3).mpr y2)]
  rfl
theorem gL_keeper (hS : zSM N V W nk ns ne) (hns : ns ≤ 6) {x z w : Int32} (hp : (zkok x z w = true ∧ nk < 8 ∧ r = some (.int (nI nk)) ∧ ∃ A', zNw A A' nk ns (nk + 1) ns G ∧ zT d A' D (rset (rset V (100 + nk) (z6k (nI nk) x z w)) 1 (fun _ => V 1 0 + 1)) (nk + 1) ns G1 ∧ tFr A nk ns G G1)) : gA d A nk ns G (N + 1) (rset (rset W (100 + nk) (zw5 x z w 0 0)) 1 (fun _ => 0)) (nk + 1) ns ne G1 := by
  obtain ⟨hok, hlt, -, A', hN', hT', hF⟩ := hp
  exact ⟨A', D, _, hT', hN', hF, (hS.kp hlt hns hok).up (by omega)⟩
theorem gX_keeper (hlt : nk < 8) {a b c : Nat} (ha : a < 4) (hb : b < 99) (hc : c < 101) (hp : G1 = G ∧ ((zkok (nI a) (nI (1 + b)) (nI c) = false ∧ E = "java/lang/IllegalArgumentException") ∨ (zkok (nI a) (nI (1 + b)) (nI c) = true ∧ nk = 8 ∧ E = "java/lang/IllegalStateException"))) : False := by
  obtain ⟨-, ⟨h, -⟩ | ⟨-, h, -⟩⟩ := hp
  · have e : zkok (nI a) (nI (1 + b)) (nI c) = true := by
      unfold zkok
      rw [show (3 : Int32) = nI 3 from rfl, show (99 : Int32) = nI 99 from rfl, show (100 : Int32) = nI 100 from rfl, zin_ok (q := a) (n := 3) (by omega) (by decide), zin_ok (q := c) (n := 100) (by omega) (by decide), gin1 (q := 1 + b) (n := 99) (by omega) (by omega) (by decide)]
      rfl
    rw [e] at h
    cases h
  · omega
/-- would -/
theorem gW_v (hS : zSM N V W nk ns ne) (hP : gP W nk ns) (hN : N < 2 ^ 20 - 1) (hnk : nk ≤ 8) (hns : ns ≤ 6) {si g q : Nat} {x set w : Int32} (ex : x = nI si) (eg : set = nI g) (eq : w = nI q) (hsi : si < ns) (hg : g < 2 ^ nk) (hq : q < 6) (hp : (zTu d A nk ns V G (fun r => ∃ v, r = some (.int v) ∧ tWd V nk ns x set w v)) r G1) : r = some (.int (qWd W nk si g 1 (nI q))) ∧ gK d A nk ns G N W ne G1 := by
  subst ex eg eq
  have hp2 := zpw hnk
  obtain ⟨⟨v, rfl, s9, h9, e9, -, -, V4, hd, rfl⟩, D', V', hT', hK, hF⟩ := hp
  obtain rfl : si = s9 := (nI_eq (by omega) (by omega)).mp e9
  rw [qGr_eq hS (by omega) hnk hsi (by omega) (hP.2 si hsi).1 (by decide) (by decide) hd hq]
  exact ⟨rfl, gK.of hS hT' hK hF⟩
theorem gX_would (hnk : nk ≤ 8) (hns : ns ≤ 6) {si g q : Nat} {x set w : Int32} (ex : x = nI si) (eg : set = nI g) (eq : w = nI q) (hsi : si < ns) (hg : g < 2 ^ nk) (hq : q < 6) (hp : (zXo d A nk ns V G (fun E => (zoo ns x ∧ E = "java/lang/IndexOutOfBoundsException") ∨ (∃ si, si < ns ∧ x = nI si ∧ (zsetok nk set = false ∨ zin w 0 5 = false) ∧ E = "java/lang/IllegalArgumentException"))) E G1) : False := by
  subst ex eg eq
  obtain ⟨⟨h, -⟩ | ⟨s9, h9, e9, h, -⟩, -⟩ := hp
  · exact zIx_1 (by omega) h ⟨si, hsi, rfl⟩
  · rcases h with h | h
    · rw [zset_ok hnk hg] at h; cases h
    · rw [show (5 : Int32) = nI 5 from rfl, zin_ok (q := q) (n := 5) (by omega) (by decide)] at h; cases h
theorem qWd_0 {si g : Nat} : qWd W nk si g 1 (nI 0) = nI (zpop 9 (mgr W si g)) := if_pos rfl
/-- would 2, with and without the keeper -/
theorem gW_2 (hS : zSM N V W nk ns ne) (hP : gP W nk ns) (hN : N < 2 ^ 20 - 1) (hnk : nk ≤ 8) (hns : ns ≤ 6) {si g : Nat} {x set w : Int32} (ex : x = nI si) (eg : set = nI g) (eq : w = nI 2) (hsi : si < ns) (hg : g < 2 ^ nk) (hp : (zTu d A nk ns V G (fun r => ∃ v, r = some (.int v) ∧ tWd V nk ns x set w v)) r G1) : r = some (.int (zb (rgd (W 7) (mgv W si) 1 (mgr W si g)))) ∧ gK d A nk ns G N W ne G1 := by
  subst ex eg eq
  have hp2 := zpw hnk
  obtain ⟨⟨v, rfl, s9, h9, e9, -, -, V4, hd, rfl⟩, D', V', hT', hK, hF⟩ := hp
  obtain rfl : si = s9 := (nI_eq (by omega) (by omega)).mp e9
  obtain ⟨-, e12, -⟩ := hS.dd (by omega) hnk hsi (by omega) (hP.2 si hsi).1 (by decide) (by decide) hd
  refine ⟨?_, gK.of hS hT' hK hF⟩
  show some (Value.int (zb (zgood_ (V4 12 0) (V4 12 1) (V4 12 3)))) = _
  rw [e12]
  exact congrArg (fun b => some (Value.int (zb b))) (zgood_rgd (inv := W 7) (h := mgv W si) mgr_lt (by decide) (by decide))
theorem gmin : ∀ g, g < 256 → ∀ k, k < 8 → nI g &&& ((1 <<< (nI k &&& 31)) ^^^ (-1)) = nI (g &&& (255 ^^^ 2 ^ k)) := by decide +kernel
theorem gmin2 : ∀ k, k < 8 → ∀ j, j < 8 → (255 ^^^ 2 ^ k).testBit j = decide (j ≠ k) := by decide +kernel
theorem gmin_mgr {si g k : Nat} (hk : k < 8) (hc : zgd (W (300 + si)) (W (400 + si)) (W (200 + si) 3) k = false) : mgr W si (g &&& (255 ^^^ 2 ^ k)) = mgr W si g := by
  unfold mgr
  refine zsN_congr 8 (fun j hj => ?_)
  rw [Nat.testBit_and, gmin2 k hk j hj]
  by_cases e : j = k
  · subst e
    rw [hc]
    rfl
  · rw [decide_eq_true e, Bool.and_true]
theorem gmin_lt {nk g k : Nat} (hg : g < 2 ^ nk) : g &&& (255 ^^^ 2 ^ k) < 2 ^ nk := Nat.lt_of_le_of_lt Nat.and_le_left hg
/-- bank -/
theorem gB_0 (hS : zSM N V W nk ns ne) (hp : (zTu d A nk ns V G (fun r => ∃ v, r = some (.int v) ∧ tBk V nk ns (nI 0) v)) r G1) : r = some (.int (nI nk)) ∧ gK d A nk ns G N W ne G1 := by
  obtain ⟨⟨v, rfl, -, rfl⟩, D', V', hT', hK, hF⟩ := hp
  exact ⟨rfl, gK.of hS hT' hK hF⟩
theorem gB_1 (hS : zSM N V W nk ns ne) (hp : (zTu d A nk ns V G (fun r => ∃ v, r = some (.int v) ∧ tBk V nk ns (nI 1) v)) r G1) : r = some (.int (nI ns)) ∧ gK d A nk ns G N W ne G1 := by
  obtain ⟨⟨v, rfl, -, rfl⟩, D', V', hT', hK, hF⟩ := hp
  exact ⟨rfl, gK.of hS hT' hK hF⟩
theorem gX_bank {q : Nat} (hq : q < 12) (hp : (zXo d A nk ns V G (fun E => zin (nI q) 0 11 = false ∧ E = "java/lang/IllegalArgumentException")) E G1) : False := by
  obtain ⟨⟨h, -⟩, -⟩ := hp
  rw [show (11 : Int32) = nI 11 from rfl, zin_ok (q := q) (n := 11) (by omega) (by decide)] at h; cases h
/-- ofSecret 4 -/
theorem gbit : ∀ q, q < 256 → ∀ k, k < 8 → ((nI q >>> (nI k &&& 31)) &&& 1 = 0 ↔ q.testBit k = false) := by decide +kernel
theorem gS_4 (hS : zSM N V W nk ns ne) (hP : gP W nk ns) (hN : N < 2 ^ 20 - 1) (hns : ns ≤ 6) {si : Nat} {x w : Int32} (ex : x = nI si) (ew : w = nI 4) (hsi : si < ns) (hp : (zTu d A nk ns V G (fun r => ∃ v, r = some (.int v) ∧ tSe V nk ns x w v)) r G1) : (∃ v, r = some (.int v) ∧ ∀ k, k < 8 → ((v >>> (nI k &&& 31)) &&& 1 = 0 ↔ zgd (W (300 + si)) (W (400 + si)) (W (200 + si) 3) k = false)) ∧ gK d A nk ns G N W ne G1 := by
  subst ex ew
  obtain ⟨⟨v, rfl, s9, h9, e9, -, t, -, -, -, rfl⟩, D', V', hT', hK, hF⟩ := hp
  obtain rfl : si = s9 := (nI_eq (by omega) (by omega)).mp e9
  refine ⟨⟨_, rfl, fun k hk => ?_⟩, gK.of hS hT' hK hF⟩
  show (zset (zcur (V (400 + si)) (V (200 + si) 3)) 8 >>> _) &&& 1 = 0 ↔ _
  have hz := zset_N (zcur (V (400 + si)) (V (200 + si) 3)) 8 (by decide)
  rw [hz.1, gbit _ hz.2 k hk, zsN_at _ 8 (by decide) k (by omega), decide_eq_true hk, Bool.true_and, hS.cur (by omega) hsi hk]
theorem gX_ofSecret (hns : ns ≤ 6) {si q : Nat} {x w : Int32} (ex : x = nI si) (ew : w = nI q) (hsi : si < ns) (hq : q < 9) (hp : (zXo d A nk ns V G (fun E => (zoo ns x ∧ E = "java/lang/IndexOutOfBoundsException") ∨ (∃ si, si < ns ∧ x = nI si ∧ zin w 0 8 = false ∧ E = "java/lang/IllegalArgumentException"))) E G1) : False := by
  subst ex ew
  obtain ⟨⟨h, -⟩ | ⟨s9, h9, e9, h, -⟩, -⟩ := hp
  · exact zIx_1 (by omega) h ⟨si, hsi, rfl⟩
  · rw [show (8 : Int32) = nI 8 from rfl, zin_ok (q := q) (n := 8) (by omega) (by decide)] at h; cases h
/-- the checks -/
theorem gcur_lt (hS : zSM N V W nk ns ne) (hnk : nk ≤ 8) {si : Nat} (hsi : si < ns) : ∀ k, nk ≤ k → k < 8 → zgd (W (300 + si)) (W (400 + si)) (W (200 + si) 3) k = false := fun k h1 h2 => by
  cases h : zgd (W (300 + si)) (W (400 + si)) (W (200 + si) 3) k with
  | false => rfl
  | true => exact absurd (hS.gv hsi h2 h).1 (by omega)
theorem gF_v (hS : zSM N V W nk ns ne) (hN : N < 2 ^ 20 - 1) (hnk : nk ≤ 8) (hns : ns ≤ 6) {si : Nat} {x : Int32} (ex : x = nI si) (hsi : si < ns) (hp : (zTu d A nk ns V G (fun r => ∃ v, r = some (.int v) ∧ tFw V nk ns x v)) r G1) : (∃ v, r = some (.int v) ∧ ¬ nI (2 ^ nk - 1) < v) ∧ gK d A nk ns G N W ne G1 := by
  subst ex
  have hp2 := zpw hnk
  obtain ⟨⟨v, rfl, s9, h9, e9, rfl⟩, D', V', hT', hK, hF⟩ := hp
  obtain rfl : si = s9 := (nI_eq (by omega) (by omega)).mp e9
  refine ⟨⟨_, rfl, fun hlt => ?_⟩, gK.of hS hT' hK hF⟩
  unfold qFw at hlt
  have hz : zsetN (zcur (V (400 + si)) (V (200 + si) 3)) 8 = zsetN (zcur (V (400 + si)) (V (200 + si) 3)) nk := zsN_ext 8 hnk (fun k h1 h2 => by rw [hS.cur (by omega) hsi h2]; exact gcur_lt hS hnk hsi k h1 h2)
  have hb := (zset_N (zcur (V (400 + si)) (V (200 + si) 3)) nk (by omega)).2
  have hl := zfB_le (fwc V nk si) (fun s b => fwl V nk (nI s) (nI b)) (zsetN (zcur (V (400 + si)) (V (200 + si) 3)) 8)
  rw [hz] at hl hlt
  have := (nI_ltI (by omega) (by omega)).mp hlt
  omega
theorem gX_fewest (hns : ns ≤ 6) {si : Nat} {x : Int32} (ex : x = nI si) (hsi : si < ns) (hp : (zXo d A nk ns V G (fun E => zoo ns x ∧ E = "java/lang/IndexOutOfBoundsException")) E G1) : False := by
  subst ex
  exact zIx_1 (by omega) hp.1.1 ⟨si, hsi, rfl⟩
theorem gLo_v (hS : zSM N V W nk ns ne) (hP : gP W nk ns) (hns : ns ≤ 6) {si : Nat} {x : Int32} (ex : x = nI si) (hsi : si < ns) (hp : (zTu d A nk ns V G (fun r => ∃ u, r = some (.double u) ∧ tLo V nk ns x u)) r G1) : (∃ u, r = some (.double u) ∧ FP.dcmp u 4607182423303617035 ≠ some .gt) ∧ gK d A nk ns G N W ne G1 := by
  subst ex
  obtain ⟨⟨u, rfl, -, s9, h9, e9, rfl⟩, D', V', hT', hK, hF⟩ := hp
  obtain rfl : si = s9 := (nI_eq (by omega) (by omega)).mp e9
  refine ⟨⟨_, rfl, gfLo (hS.t hsi (hP.2 si hsi).1) (fun k hk => ?_)⟩, gK.of hS hT' hK hF⟩
  obtain ⟨rk, h1, h2⟩ := (hP.1 k hk).2
  exact ⟨rk, h1, (hS.2.1 k hk).1.2.2.1.trans h2⟩
theorem gX_lost (hns : ns ≤ 6) {si : Nat} {x : Int32} (ex : x = nI si) (hsi : si < ns) (hp : (zXo d A nk ns V G (fun E => zoo ns x ∧ E = "java/lang/IndexOutOfBoundsException")) E G1) : False := by
  subst ex
  exact zIx_1 (by omega) hp.1.1 ⟨si, hsi, rfl⟩
theorem gcmp {a b : UInt64} (h : FP.dcmp a b ≠ some .gt) : ¬ 0 < Op.cmpValue (FP.dcmp a b) .l := by
  cases e : FP.dcmp a b with
  | none => decide
  | some o =>
    rw [e] at h
    cases o with
    | lt => decide
    | eq => decide
    | gt => exact absurd rfl h
theorem gRo_v (hS : zSM N V W nk ns ne) {x : Int32} (hp : (fun r G1 => (∃ q b g cn, r = some (.ref q) ∧ G1 q = some (zob 0 [.ref b, .int 0, .int 0, .int 0]) ∧ G1 b = some (zBy d cn g) ∧ nk ≤ cn ∧ cn < 16) ∧ ∃ D' V', zT d A D' V' nk ns G1 ∧ zKo V V' ∧ tFr A nk ns G G1) r G1) : (∃ q b g cn, r = some (.ref q) ∧ G1 q = some (zob 0 [.ref b, .int 0, .int 0, .int 0]) ∧ G1 b = some (zBy d cn g) ∧ nk ≤ cn ∧ cn < 16) ∧ gK d A nk ns G N W ne G1 := by
  obtain ⟨h, D', V', hT', hK, hF⟩ := hp
  exact ⟨h, gK.of hS hT' hK hF⟩
theorem gX_row (hns : ns ≤ 6) {si : Nat} {x : Int32} (ex : x = nI si) (hsi : si < ns) (hp : (fun E G1 => (x < 0 ∨ nI ns ≤ x) ∧ ∃ D' V', zT d A D' V' nk ns G1 ∧ zKo V V' ∧ tFr A nk ns G G1) E G1) : False := by
  subst ex
  exact zIx_1 (by omega) hp.1 ⟨si, hsi, rfl⟩
theorem zcnt_ext {f : Nat → Bool} {n : Nat} : ∀ m, n ≤ m → (∀ k, n ≤ k → k < m → f k = false) → zcnt f m = zcnt f n
  | 0, h, _ => by rw [Nat.le_zero.mp h]
  | m + 1, h, hf => by
    by_cases e : n = m + 1
    · rw [e]
    · show zcnt f m + (if f m then 1 else 0) = _
      rw [hf m (by omega) (Nat.lt_succ_self m), zcnt_ext m (by omega) (fun k h1 h2 => hf k h1 (by omega))]
      rfl
theorem gW_5 (hS : zSM N V W nk ns ne) (hnk : nk ≤ 8) {si g : Nat} (hsi : si < ns) : qWd W nk si g 1 (nI 5) ≤ nI nk := by
  have e : qWd W nk si g 1 (nI 5) = if nI 1 ≤ nI (zpop 9 (mgr W si g)) then nI (zpop 9 (rag (W 7) (mgv W si) (mgr W si g) (rmb (W 7) (mgv W si) 1 (mgr W si g) (mgr W si g)).1)) else 0 := rfl
  rw [e]
  by_cases c : nI 1 ≤ nI (zpop 9 (mgr W si g))
  · rw [if_pos c]
    unfold rag
    rw [zpop_cnt _ 8 (by decide)]
    have h1 := zcnt_ext (f := fun k => (mgr W si g).testBit k && decide (zth (W 7) (gvs (mgv W si)) (nI (2 * (rmb (W 7) (mgv W si) 1 (mgr W si g) (mgr W si g)).1)) (nI (k + 1)) = mgv W si k)) (n := nk) 8 hnk (fun k h1 h2 => by
      show ((mgr W si g).testBit k && _) = false
      rw [mgr_at h2, gcur_lt hS hnk hsi k h1 h2]
      rfl)
    rw [h1]
    have h2 := zcnt_n (f := fun k => (mgr W si g).testBit k && decide (zth (W 7) (gvs (mgv W si)) (nI (2 * (rmb (W 7) (mgv W si) 1 (mgr W si g) (mgr W si g)).1)) (nI (k + 1)) = mgv W si k)) nk
    exact (nI_leI (by omega) (by omega)).mpr h2
  · rw [if_neg c]
    exact (nI_leI (a := 0) (b := nk) (by decide) (by omega)).mpr (Nat.zero_le _)
/-- digest, isSound -/
theorem gP.t1 (hP : gP W nk ns) : ∀ i, i < ns → ∃ t, 1 ≤ t ∧ t ≤ 4 ∧ W (200 + i) 0 = nI t := fun i hi => ⟨1, by decide, by decide, (hP.2 i hi).1⟩
theorem gD_v (hS : zSM N V W nk ns ne) (hP : gP W nk ns) (hN : N < 2 ^ 20 - 1) (hnk : nk ≤ 8) (hns : ns ≤ 6) (hp : zTu d A nk ns V G (fun r => ∃ c9, c9 ≤ 64 ∧ V 5 0 = nI c9 ∧ r = some (.long (dAl V nk ns c9 (gqW W nk)))) r G1) : r = some (.long (rAl W nk ns ne)) ∧ gK d A nk ns G N W ne G1 := by
  obtain ⟨⟨c9, h9, e9, rfl⟩, D', V', hT', hK, hF⟩ := hp
  obtain rfl : c9 = ne := (nI_eq (by omega) (by have := hS.2.2.2.1.2.1.1; omega)).mp (e9.symm.trans hS.2.2.2.1.1)
  rw [j_digest hS zKn.rf (by omega) hnk hns hP.t1]
  exact ⟨rfl, gK.of hS hT' hK hF⟩
theorem gSo_v (hS : zSM N V W nk ns ne) (hP : gP W nk ns) (hN : N < 2 ^ 20 - 1) (hp : zTu d A nk ns V G (fun r => ∃ c9, c9 ≤ 64 ∧ V 5 0 = nI c9 ∧ r = some (.int (zb (zall (sSnd V) ns && zall (zwhf (V 6) (V 7) (V 8) (V 9)) c9)))) r G1) : r = some (.int 1) ∧ gK d A nk ns G N W ne G1 := by
  obtain ⟨⟨c9, h9, e9, rfl⟩, D', V', hT', hK, hF⟩ := hp
  obtain rfl : c9 = ne := (nI_eq (by omega) (by have := hS.2.2.2.1.2.1.1; omega)).mp (e9.symm.trans hS.2.2.2.1.1)
  rw [hS.wh, hS.allsnd (by omega), (zall_iff ns).mpr (fun k hk => hP.oc hS hk)]
  exact ⟨rfl, gK.of hS hT' hK hF⟩
end GM


/-! the ghost step -/
def gCx (q : Nat → Nat → Nat) (W : Nat → Nat → Int32) (nk ns ne : Nat) (W1 : Nat → Nat → Int32) (ne1 si g ki : Nat) : Prop :=
  if q 9 6 = 0 then (if 0 < zpop 9 (mgr W si g) then gFsR W W1 ne ne1 si g (nI si) else W1 = W ∧ ne1 = ne)
  else if q 9 6 = 1 then ∃ W2, mFd W W2 ns (nI (q 10 4)) (mDn nk ns 0) ∧ mEn W2 W1 ne ne1 2 (nI (q 10 4))
  else if q 9 6 = 2 then (if zgd (W (300 + si)) (W (400 + si)) (W (200 + si) 3) ki = false ∧ rgd (W 7) (mgv W si) 1 (mgr W si g) = true then ∃ r, mRb W W1 nk ne ne1 si ki g (nI si) r else W1 = W ∧ ne1 = ne)
  else if q 9 6 = 3 then W1 = rset W (100 + ki) (zk5 (W (100 + ki)) (if q 10 3 = 0 then nI (q 11 97) else 0) (W (100 + ki) 4)) ∧ ne1 = ne
  else if q 9 6 = 4 then W1 = rset W (200 + si) (zs6 (W (200 + si)) (W (200 + si) 3) (gfz (nI (q 10 2)) (if q 11 2 = 0 then 1 else 0) (W (200 + si) 4)) (W (200 + si) 5)) ∧ ne1 = ne
  else ∃ r, mOp W W1 nk ne ne1 si g (nI si) r
def gCs (q : Nat → Nat → Nat) (W : Nat → Nat → Int32) (nk ns ne : Nat) (W1 : Nat → Nat → Int32) (nk1 ns1 ne1 : Nat) : Prop :=
  if (nk < 8 ∧ q 0 3 = 0) ∨ nk = 0 then W1 = rset (rset W (100 + nk) (zw5 (nI (q 1 4)) (nI (1 + q 2 99)) (nI (q 3 101)) 0 0)) 1 (fun _ => 0) ∧ nk1 = nk + 1 ∧ ns1 = ns ∧ ne1 = ne
  else if (ns < 6 ∧ q 4 3 = 0) ∨ ns = 0 then mDl W W1 ns ne ne1 1 (nI (q 5 97)) (nI (1 + q 6 2)) (nI (q 7 50)) (nI (q 8 (2 ^ nk) ||| 1)) ∧ nk1 = nk ∧ ns1 = ns + 1
  else gCx q W nk ns ne W1 ne1 (q 5 ns) (q 6 (2 ^ nk) ||| q 7 (2 ^ nk)) (q 8 nk) ∧ nk1 = nk ∧ ns1 = ns
theorem gCs_ex {q : Nat → Nat → Nat} (hq : ∀ c m, 0 < m → q c m < m) {V W : Nat → Nat → Int32} {nk ns ne N : Nat} (hS : zSM N V W nk ns ne) (hP : gP W nk ns) (hN : N < 2 ^ 20 - 1) (hnk : nk ≤ 8) (hns : ns ≤ 6) : ∃ W1 nk1 ns1 ne1, gCs q W nk ns ne W1 nk1 ns1 ne1 ∧ gP W1 nk1 ns1 ∧ nk1 ≤ 8 ∧ ns1 ≤ 6 := by
  have hne : ne ≤ 64 := hS.2.2.2.1.2.1.1
  unfold gCs
  by_cases c1 : (nk < 8 ∧ q 0 3 = 0) ∨ nk = 0
  · simp only [if_pos c1]
    exact ⟨_, _, _, _, ⟨rfl, rfl, rfl, rfl⟩, hP.kp (by omega) hns _ _ _ _ ⟨_, hq 3 101 (by decide), rfl⟩, by omega, hns⟩
  · simp only [if_neg c1]
    by_cases c2 : (ns < 6 ∧ q 4 3 = 0) ∨ ns = 0
    · simp only [if_pos c2]
      obtain ⟨W1, ne1, h1, h2⟩ := gDl W (ns := ns) hne 1 (nI (q 5 97)) (nI (1 + q 6 2)) (nI (q 7 50)) (nI (q 8 (2 ^ nk) ||| 1))
      exact ⟨W1, nk, ns + 1, ne1, ⟨h2, rfl, rfl⟩, hP.dl hnk (by omega) (hq 5 97 (by decide)) h2, hnk, by omega⟩
    · simp only [if_neg c2]
      have hsi : q 5 ns < ns := hq 5 ns (by omega)
      have hki : q 8 nk < nk := hq 8 nk (by omega)
      have key : ∃ W1 ne1, gCx q W nk ns ne W1 ne1 (q 5 ns) (q 6 (2 ^ nk) ||| q 7 (2 ^ nk)) (q 8 nk) ∧ gP W1 nk ns := by
        generalize q 5 ns = si at *
        generalize q 6 (2 ^ nk) ||| q 7 (2 ^ nk) = g at *
        generalize q 8 nk = ki at *
        unfold gCx
        by_cases d0 : q 9 6 = 0
        · simp only [if_pos d0]
          by_cases e : 0 < zpop 9 (mgr W si g)
          · simp only [if_pos e]
            obtain ⟨W1, ne1, h1, h2⟩ := gFs W hne si g (nI si)
            exact ⟨W1, ne1, h2, hP.fs hS hN hnk hns hsi h2⟩
          · simp only [if_neg e]
            exact ⟨W, ne, ⟨rfl, rfl⟩, hP⟩
        · simp only [if_neg d0]
          by_cases d1 : q 9 6 = 1
          · simp only [if_pos d1]
            obtain ⟨W2, h2⟩ := gFd W hns (nI (q 10 4)) (mDn nk ns 0)
            obtain ⟨W1, ne1, h1, h3⟩ := gEn W2 hne 2 (nI (q 10 4))
            exact ⟨W1, ne1, ⟨W2, h2, h3⟩, (hP.fd hnk hns h2).en hnk hns h3⟩
          · simp only [if_neg d1]
            by_cases d2 : q 9 6 = 2
            · simp only [if_pos d2]
              by_cases e : zgd (W (300 + si)) (W (400 + si)) (W (200 + si) 3) ki = false ∧ rgd (W 7) (mgv W si) 1 (mgr W si g) = true
              · simp only [if_pos e]
                obtain ⟨b0, hb⟩ := (hP.2 si hsi).2.1
                obtain ⟨W1, ne1, r, h1, h2⟩ := gRb W (nk := nk) hne si ki g (nI si) (by decide) (by decide) (hP.2 si hsi).1 e.2 hb
                exact ⟨W1, ne1, ⟨r, h2⟩, hP.rb hS hnk hns hsi hki h2⟩
              · simp only [if_neg e]
                exact ⟨W, ne, ⟨rfl, rfl⟩, hP⟩
            · simp only [if_neg d2]
              by_cases d3 : q 9 6 = 3
              · simp only [if_pos d3]
                exact ⟨_, _, ⟨rfl, rfl⟩, hP.li hnk hns hki _⟩
              · simp only [if_neg d3]
                by_cases d4 : q 9 6 = 4
                · simp only [if_pos d4]
                  exact ⟨_, _, ⟨rfl, rfl⟩, hP.fz hnk hns hsi _⟩
                · simp only [if_neg d4]
                  obtain ⟨W1, ne1, r, h1, h2⟩ := gOp W (nk := nk) hne si g (nI si) (by decide) (by decide) (hP.2 si hsi).1
                  exact ⟨W1, ne1, ⟨r, h2⟩, hP.op hnk hns h2⟩
      obtain ⟨W1, ne1, h1, h2⟩ := key
      exact ⟨W1, nk, ns, ne1, ⟨h1, rfl, rfl⟩, h2, hnk, hns⟩

