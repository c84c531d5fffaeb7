
theorem zKn.row {V V' : Nat → Nat → Int32} (h : zKn V V') {r : Nat} (h0 : r ≠ 0) (h8 : r ≠ 8) (h9 : r ≠ 9) : V' r = V r := funext fun j => h r j ⟨h8, h9, fun e => absurd e h0⟩ (fun q => h0 q.1)
theorem zKn.at0 {V V' : Nat → Nat → Int32} (h : zKn V V') {j : Nat} (h1 : 1 ≤ j) (h5 : j ≤ 5) : V' 0 j = V 0 j := h 0 j ⟨by decide, by decide, fun _ => h5⟩ (by omega)
/-- what the reference's numbers keep to, where a group is asked -/
def mOk (V : Nat → Nat → Int32) (nk ns : Nat) (iv : Nat → Nat) : Prop := zIv (V 7) iv ∧ (∀ si, si < ns → ∀ k, k < 8 → zgd (V (300 + si)) (V (400 + si)) (V (200 + si) 3) k = true → ∃ j, j < 97 ∧ mgv V si k = nI j) ∧ ∀ k, k < nk → ∃ z, z < 4 ∧ V (100 + k) 0 = nI z
theorem mOk.of {V V' : Nat → Nat → Int32} {nk ns : Nat} {iv : Nat → Nat} (h : mOk V nk ns iv) (hk : ∀ r, r ≠ 0 → r ≠ 8 → r ≠ 9 → V' r = V r) : mOk V' nk ns iv := by
  refine ⟨by rw [hk 7 (by decide) (by decide) (by decide)]; exact h.1, fun si hsi k h8 hz => ?_, fun k hn => by rw [hk (100 + k) (by omega) (by omega) (by omega)]; exact h.2.2 k hn⟩
  rw [hk (300 + si) (by omega) (by omega) (by omega), hk (400 + si) (by omega) (by omega) (by omega), hk (200 + si) (by omega) (by omega) (by omega)] at hz
  obtain ⟨j, hj, e⟩ := h.2.1 si hsi k h8 hz
  exact ⟨j, hj, by rw [← e]; unfold mgv; rw [hk (300 + si) (by omega) (by omega) (by omega), hk (100 + k) (by omega) (by omega) (by omega)]⟩
theorem zKn.ok {V V' : Nat → Nat → Int32} (h : zKn V V') {nk ns : Nat} {iv : Nat → Nat} (ho : mOk V nk ns iv) : mOk V' nk ns iv := ho.of fun _ h0 h8 h9 => h.row h0 h8 h9
/-- the group of a set -/
def mgr (V : Nat → Nat → Int32) (si s : Nat) : Nat := zsetN (fun k => zgd (V (300 + si)) (V (400 + si)) (V (200 + si) 3) k && s.testBit k) 8
theorem mgr_lt {V : Nat → Nat → Int32} {si s : Nat} : mgr V si s < 256 := (zset_N _ 8 (by decide)).2
theorem mgr_at {V : Nat → Nat → Int32} {si s k : Nat} (hk : k < 8) : (mgr V si s).testBit k = (zgd (V (300 + si)) (V (400 + si)) (V (200 + si) 3) k && s.testBit k) := by
  unfold mgr
  rw [zsN_at _ 8 (by decide) k (by omega), decide_eq_true hk, Bool.true_and]
theorem mgr_le {V : Nat → Nat → Int32} {si s : Nat} (hs : s < 256) : mgr V si s ≤ s := by
  have := zsN_le (f := fun k => zgd (V (300 + si)) (V (400 + si)) (V (200 + si) 3) k && s.testBit k) (g := fun k => s.testBit k) 8 (fun k _ h1 => by rw [Bool.and_eq_true] at h1; exact h1.2)
  rw [zsN_self8 s hs] at this
  exact this
theorem mgr_sm {V : Nat → Nat → Int32} {nk ns si s : Nat} {iv : Nat → Nat} (ho : mOk V nk ns iv) (hsi : si < ns) : zSm (mgv V si) (mgr V si s) := fun k hk h1 => by
  rw [mgr_at hk, Bool.and_eq_true] at h1
  exact ho.2.1 si hsi k hk h1.1
theorem zand_N {f : Nat → Bool} {s : Nat} (hs : s < 256) : zset f 8 &&& nI s = nI (zsetN (fun k => f k && s.testBit k) 8) := by
  have h1 := zset_N f 8 (by decide)
  have h2 := (zset_N (fun k => f k && s.testBit k) 8 (by decide)).2
  rw [h1.1, nI_and (by omega) (by omega)]
  have hle : zsetN f 8 &&& s ≤ s := Nat.and_le_right
  refine congrArg nI (tb_ext (by omega) (by omega) fun k hk => ?_)
  rw [Nat.testBit_and, zsN_at f 8 (by decide) k hk, zsN_at _ 8 (by decide) k hk, Bool.and_assoc]
theorem m_Mo_groupE {g0 : State} {d : zD} {l : Launch} {a0 : Array Value} (hs0 : zS0 d a0 g0) (hst : l.stackTraces = false) {G : zG} {B : Nat → Nat} {V : Nat → Nat → Int32} {nk ns ne ec : Nat} (hM : zM d B V nk ns ne ec G) {si : Nat} (hsi : si < ns) {g : Nat} (hg : g < 256) : zMet g0 d l y_Mo_group c_Mo_group 3 (Option.some Jvm.ClassFile.FieldType.int) 3 0 0 [.ref (B 0), .ref (B (200 + si)), .int (nI g)] G (zEq (some (.int (nI (mgr V si g)))) G) zNo := by
  refine zMet.imp (m_Mo_group hs0 hst hM hsi (nI g)) (fun r G1 h => ?_) (fun _ _ h => h)
  obtain ⟨rfl, rfl⟩ := h
  exact ⟨by rw [zand_N hg]; rfl, rfl⟩
/-- thrown, and nothing done -/
def mThr (d : zD) (B : Nat → Nat) (nk ns ne ec : Nat) (V : Nat → Nat → Int32) (G : zG) (t : Int32) (r : Option Value) (G1 : zG) : Prop := r = some (.int 0) ∧ ∃ V', zM d B V' nk ns ne ec G1 ∧ V' 0 0 = t ∧ zKn V V' ∧ mFr B nk ns ne G G1

theorem zor_1 {x : Int32} {b : Bool} (h : x = zb b) : x ||| 1 = zb true := by subst h; cases b <;> rfl
theorem zor_0 {x : Int32} {b : Bool} (h : x = zb b) : x ||| 0 = zb b := by subst h; cases b <;> rfl
theorem zor_bb {x : Int32} {b : Bool} (h : x = zb b) (c : Bool) : x ||| zb c = zb (b || c) := by subst h; cases b <;> cases c <;> rfl
theorem m_Mo_sizeX {g0 : State} {d : zD} {l : Launch} {a0 : Array Value} (hs0 : zS0 d a0 g0) (hst : l.stackTraces = false) {G : zG} (x : Int32) : zMet g0 d l y_Mo_size c_Mo_size 3 (Option.some Jvm.ClassFile.FieldType.int) 1 0 0 [.int x] G (fun r G1 => (∃ v, r = some (.int v) ∧ ∀ n, n < 512 → x = nI n → v = nI (zpop 9 n)) ∧ G = G1) zNo := by
  by_cases h : ∃ n, n < 512 ∧ x = nI n
  · obtain ⟨n, hn, rfl⟩ := h
    refine zMet.imp (m_Mo_size hs0 hst hn) (fun r G1 h => ?_) (fun _ _ h => h)
    obtain ⟨rfl, rfl⟩ := h
    exact ⟨⟨_, rfl, fun m hm e => by rw [(nI_eq (by omega) (by omega)).mp e]⟩, rfl⟩
  · refine zMet.imp (m_Mo_sizeA hs0 hst x) (fun r G1 h' => ?_) (fun _ _ h => h)
    obtain ⟨⟨v, rfl⟩, rfl⟩ := h'
    exact ⟨⟨v, rfl, fun m hm e => absurd ⟨m, hm, e⟩ h⟩, rfl⟩

section ZMZ
variable {d : zD} {B : Nat → Nat} {V : Nat → Nat → Int32} {nk ns ne ec : Nat} {G G1 : zG}
/-- a share is written, of a keeper that there is -/
theorem zM.putshE (h : zM d B V nk ns ne ec G) {i k : Nat} (hi : i < ns) (hk : k < nk) (x : Int32) : zM d B (rset V (300 + i) (upd (V (300 + i)) k x)) nk ns ne ec (zu G (B (300 + i)) (zI d 8 (upd (V (300 + i)) k x))) ∧ mFr B nk ns ne G (zu G (B (300 + i)) (zI d 8 (upd (V (300 + i)) k x))) := by
  have hn : ns ≤ 6 := h.2.2.1
  exact ⟨h.put (ml_sh hi) _ rfl (mcell_a (by omega) (by omega) _).symm (h.2.sh (fun j h1 h2 => (pk_un (by omega)).trans (h.off hi h1 h2)) (by omega)), zM.frput (ml_sh hi) rfl⟩
theorem zM.putepE (h : zM d B V nk ns ne ec G) {i : Nat} (hi : i < ns) (v : Nat → Int32) : zM d B (rset V (400 + i) v) nk ns ne ec (zu G (B (400 + i)) (zI d 8 v)) ∧ mFr B nk ns ne G (zu G (B (400 + i)) (zI d 8 v)) := by
  have hn : ns ≤ 6 := h.2.2.1
  exact ⟨h.put (ml_ep hi) v rfl (mcell_a (by omega) (by omega) _).symm (h.2.off (Or.inr (by omega))), zM.frput (ml_ep hi) rfl⟩
abbrev zms (B : Nat → Nat) (V : Nat → Nat → Int32) (i : Nat) (a b c : Int32) : va_E := zob 11 [.int (V (200 + i) 0), .int (V (200 + i) 1), .int (V (200 + i) 2), .int a, .int b, .int c, .ref (B (300 + i)), .ref (B (400 + i))]
def zs6 (f : Nat → Int32) (a b c : Int32) : Nat → Int32 | 0 => f 0 | 1 => f 1 | 2 => f 2 | 3 => a | 4 => b | 5 => c | _ => 0
theorem zM.puts (h : zM d B V nk ns ne ec G) {i : Nat} (hi : i < ns) (a b : Int32) (c : Bool) : zM d B (rset V (200 + i) (zs6 (V (200 + i)) a b (zb c))) nk ns ne ec (zu G (B (200 + i)) (zms B V i a b (zb c))) ∧ mFr B nk ns ne G (zu G (B (200 + i)) (zms B V i a b (zb c))) := by
  have hn : ns ≤ 6 := h.2.2.1
  exact ⟨h.put (ml_i hi) (zs6 (V (200 + i)) a b (zb c)) rfl (mcell_i (i := i) (d := d) (B := B) (ec := ec) (nk := nk) (ns := ns) (ne := ne) (by omega) (zs6 (V (200 + i)) a b (zb c))).symm (h.2.sec rfl ⟨c, rfl⟩ (by omega)), zM.frput (ml_i hi) rfl⟩
abbrev zmk (V : Nat → Nat → Int32) (k : Nat) (a b : Int32) : va_E := zob 10 [.int (V (100 + k) 0), .int (V (100 + k) 1), .int (V (100 + k) 2), .int a, .int b]
def zk5 (f : Nat → Int32) (a b : Int32) : Nat → Int32 | 0 => f 0 | 1 => f 1 | 2 => f 2 | 3 => a | 4 => b | _ => 0
theorem zM.putk (h : zM d B V nk ns ne ec G) {k : Nat} (hk : k < nk) (a : Int32) (c : Bool) : zM d B (rset V (100 + k) (zk5 (V (100 + k)) a (zb c))) nk ns ne ec (zu G (B (100 + k)) (zmk V k a (zb c))) ∧ mFr B nk ns ne G (zu G (B (100 + k)) (zmk V k a (zb c))) := by
  have hn : nk ≤ 8 := h.2.1
  exact ⟨h.put (ml_k hk) (zk5 (V (100 + k)) a (zb c)) rfl (mcell_k (k := k) (d := d) (B := B) (ec := ec) (nk := nk) (ns := ns) (ne := ne) (by omega) (zk5 (V (100 + k)) a (zb c))).symm (h.2.kee ⟨c, rfl⟩ (by omega)), zM.frput (ml_k hk) rfl⟩
end ZMZ

theorem d_Mo_knock_0 : decode c_Mo_knock 0 = .ok (.aload_n 0, 1) := by decide +kernel
theorem d_Mo_knock_1 : decode c_Mo_knock 1 = .ok (.iconst 0, 1) := by decide +kernel
theorem d_Mo_knock_2 : decode c_Mo_knock 2 = .ok (.putfield 36, 3) := by decide +kernel
theorem d_Mo_knock_5 : decode c_Mo_knock 5 = .ok (.aload_n 0, 1) := by decide +kernel
theorem d_Mo_knock_6 : decode c_Mo_knock 6 = .ok (.dup, 1) := by decide +kernel
theorem d_Mo_knock_7 : decode c_Mo_knock 7 = .ok (.getfield 175, 3) := by decide +kernel
theorem d_Mo_knock_10 : decode c_Mo_knock 10 = .ok (.iconst 1, 1) := by decide +kernel
theorem d_Mo_knock_11 : decode c_Mo_knock 11 = .ok (.iadd, 1) := by decide +kernel
theorem d_Mo_knock_12 : decode c_Mo_knock 12 = .ok (.putfield 175, 3) := by decide +kernel
theorem d_Mo_knock_15 : decode c_Mo_knock 15 = .ok (.aload_n 0, 1) := by decide +kernel
theorem d_Mo_knock_16 : decode c_Mo_knock 16 = .ok (.getfield 175, 3) := by decide +kernel
theorem d_Mo_knock_19 : decode c_Mo_knock 19 = .ok (.ireturn, 1) := by decide +kernel
set_option maxHeartbeats 4000000 in
set_option maxRecDepth 100000 in
theorem m_Mo_knockE {g0 : State} {d : zD} {l : Launch} {a0 : Array Value} (hs0 : zS0 d a0 g0) (hst : l.stackTraces = false) {G : zG} {B : Nat → Nat} {V : Nat → Nat → Int32} {nk ns ne ec : Nat} (hM : zM d B V nk ns ne ec G) : zMet g0 d l y_Mo_knock c_Mo_knock 1 ((Option.some Jvm.ClassFile.FieldType.int)) 1 0 0 [.ref (B 0)] (G) (fun r G1 => ∃ V1, zKn V V1 ∧ V1 0 0 = 0 ∧ zM d B (rset V1 0 (zm6 (V1 0 0) (V1 0 1) (V1 0 2) (V1 0 3 + 1) (V1 0 4) (V1 0 5))) nk ns ne ec G1 ∧ mFr B nk ns ne G G1 ∧ r = some (.int (V1 0 3 + 1))) (zNo) := by
  have hnk : nk ≤ 8 := hM.2.1
  have hns : ns ≤ 6 := hM.2.2.1
  have hne : ne ≤ 64 := hM.2.2.2.1
  have hp2 : 2 ^ nk ≤ 256 := Nat.pow_le_pow_right (n := 2) (by decide) hnk
  refine z_entry hs0 hst (by decide) (Nat.le_of_ble_eq_true rfl) (fun p e s m args below meth c => ?_)
  refine z_aload_n 0 d_Mo_knock_0 rfl rfl ?_
  refine z_iconst (v := 0) d_Mo_knock_1 (by decide) ?_
  refine z_put zc_Mo 0 (by decide) qF_Mo_36 hM.mo rfl rfl rfl (Nat.le_of_ble_eq_true rfl) d_Mo_knock_2 ?_
  obtain ⟨V1, hM1, hK1, hF1, hT1⟩ := hM.putT 0
  refine z_aload_n 0 d_Mo_knock_5 rfl rfl ?_
  refine z_dup d_Mo_knock_6 rfl ?_
  refine z_get zc_Mo 3 (by decide) qF_Mo_175 hM1.mo rfl d_Mo_knock_7 ?_
  refine z_iconst (v := 1) d_Mo_knock_10 (by decide) ?_
  refine z_iadd d_Mo_knock_11 ?_
  refine z_put zc_Mo 3 (by decide) qF_Mo_175 hM1.mo rfl rfl rfl (Nat.le_of_ble_eq_true rfl) d_Mo_knock_12 ?_
  obtain ⟨hM2, hF2⟩ := hM1.put0 (V1 0 0) (V1 0 1) (V1 0 2) (V1 0 3 + 1) (V1 0 4) (V1 0 5)
  refine z_aload_n 0 d_Mo_knock_15 rfl rfl ?_
  refine z_get zc_Mo 3 (by decide) qF_Mo_175 hM2.mo rfl d_Mo_knock_16 ?_
  exact z_iret rfl (⟨V1, hK1, hT1, hM2, hF1.tr hF2, rfl⟩) (by first | decide | omega) (by first | decide | omega) d_Mo_knock_19
theorem d_Mo_pass_0 : decode c_Mo_pass 0 = .ok (.aload_n 0, 1) := by decide +kernel
theorem d_Mo_pass_1 : decode c_Mo_pass 1 = .ok (.iconst 0, 1) := by decide +kernel
theorem d_Mo_pass_2 : decode c_Mo_pass 2 = .ok (.putfield 36, 3) := by decide +kernel
theorem d_Mo_pass_5 : decode c_Mo_pass 5 = .ok (.iload_n 1, 1) := by decide +kernel
theorem d_Mo_pass_6 : decode c_Mo_pass 6 = .ok (.iconst 1, 1) := by decide +kernel
theorem d_Mo_pass_7 : decode c_Mo_pass 7 = .ok (.sipush 365, 3) := by decide +kernel
theorem d_Mo_pass_10 : decode c_Mo_pass 10 = .ok (.invokestatic 115, 3) := by decide +kernel
theorem d_Mo_pass_13 : decode c_Mo_pass 13 = .ok (.ifCond .ne 9, 3) := by decide +kernel
theorem d_Mo_pass_16 : decode c_Mo_pass 16 = .ok (.aload_n 0, 1) := by decide +kernel
theorem d_Mo_pass_17 : decode c_Mo_pass 17 = .ok (.iconst 1, 1) := by decide +kernel
theorem d_Mo_pass_18 : decode c_Mo_pass 18 = .ok (.invokevirtual 119, 3) := by decide +kernel
theorem d_Mo_pass_21 : decode c_Mo_pass 21 = .ok (.ireturn, 1) := by decide +kernel
theorem d_Mo_pass_22 : decode c_Mo_pass 22 = .ok (.aload_n 0, 1) := by decide +kernel
theorem d_Mo_pass_23 : decode c_Mo_pass 23 = .ok (.getfield 102, 3) := by decide +kernel
theorem d_Mo_pass_26 : decode c_Mo_pass 26 = .ok (.iload_n 1, 1) := by decide +kernel
theorem d_Mo_pass_27 : decode c_Mo_pass 27 = .ok (.iadd, 1) := by decide +kernel
theorem d_Mo_pass_28 : decode c_Mo_pass 28 = .ok (.sipush 999, 3) := by decide +kernel
theorem d_Mo_pass_31 : decode c_Mo_pass 31 = .ok (.if_icmp .le 9, 3) := by decide +kernel
theorem d_Mo_pass_34 : decode c_Mo_pass 34 = .ok (.aload_n 0, 1) := by decide +kernel
theorem d_Mo_pass_35 : decode c_Mo_pass 35 = .ok (.iconst 2, 1) := by decide +kernel
theorem d_Mo_pass_36 : decode c_Mo_pass 36 = .ok (.invokevirtual 119, 3) := by decide +kernel
theorem d_Mo_pass_39 : decode c_Mo_pass 39 = .ok (.ireturn, 1) := by decide +kernel
theorem d_Mo_pass_40 : decode c_Mo_pass 40 = .ok (.aload_n 0, 1) := by decide +kernel
theorem d_Mo_pass_41 : decode c_Mo_pass 41 = .ok (.dup, 1) := by decide +kernel
theorem d_Mo_pass_42 : decode c_Mo_pass 42 = .ok (.getfield 102, 3) := by decide +kernel
theorem d_Mo_pass_45 : decode c_Mo_pass 45 = .ok (.iload_n 1, 1) := by decide +kernel
theorem d_Mo_pass_46 : decode c_Mo_pass 46 = .ok (.iadd, 1) := by decide +kernel
theorem d_Mo_pass_47 : decode c_Mo_pass 47 = .ok (.putfield 102, 3) := by decide +kernel
theorem d_Mo_pass_50 : decode c_Mo_pass 50 = .ok (.aload_n 0, 1) := by decide +kernel
theorem d_Mo_pass_51 : decode c_Mo_pass 51 = .ok (.getfield 102, 3) := by decide +kernel
theorem d_Mo_pass_54 : decode c_Mo_pass 54 = .ok (.ireturn, 1) := by decide +kernel
set_option maxHeartbeats 4000000 in
set_option maxRecDepth 100000 in
theorem m_Mo_passE {g0 : State} {d : zD} {l : Launch} {a0 : Array Value} (hs0 : zS0 d a0 g0) (hst : l.stackTraces = false) {G : zG} {B : Nat → Nat} {V : Nat → Nat → Int32} {nk ns ne ec : Nat} (hM : zM d B V nk ns ne ec G) (x : Int32) : zMet g0 d l y_Mo_pass c_Mo_pass 2 ((Option.some Jvm.ClassFile.FieldType.int)) 2 0 0 [.ref (B 0), .int x] (G) (fun r G1 => (zin x 1 365 = false ∧ mThr d B nk ns ne ec V G 1 r G1) ∨ (zin x 1 365 = true ∧ 999 < V 0 2 + x ∧ mThr d B nk ns ne ec V G 2 r G1) ∨ (zin x 1 365 = true ∧ ¬ 999 < V 0 2 + x ∧ ∃ V1, zKn V V1 ∧ V1 0 0 = 0 ∧ zM d B (rset V1 0 (zm6 (V1 0 0) (V1 0 1) (V1 0 2 + x) (V1 0 3) (V1 0 4) (V1 0 5))) nk ns ne ec G1 ∧ mFr B nk ns ne G G1 ∧ r = some (.int (V1 0 2 + x)))) (zNo) := by
  have hnk : nk ≤ 8 := hM.2.1
  have hns : ns ≤ 6 := hM.2.2.1
  have hne : ne ≤ 64 := hM.2.2.2.1
  have hp2 : 2 ^ nk ≤ 256 := Nat.pow_le_pow_right (n := 2) (by decide) hnk
  refine z_entry hs0 hst (by decide) (Nat.le_of_ble_eq_true rfl) (fun p e s m args below meth c => ?_)
  refine z_aload_n 0 d_Mo_pass_0 rfl rfl ?_
  refine z_iconst (v := 0) d_Mo_pass_1 (by decide) ?_
  refine z_put zc_Mo 0 (by decide) qF_Mo_36 hM.mo rfl rfl rfl (Nat.le_of_ble_eq_true rfl) d_Mo_pass_2 ?_
  obtain ⟨V1, hM1, hK1, hF1, hT1⟩ := hM.putT 0
  have eD : V1 0 2 = V 0 2 := hK1.at0 (by decide) (by decide)
  refine z_iload_n 1 d_Mo_pass_5 rfl rfl ?_
  refine z_iconst (v := 1) d_Mo_pass_6 (by decide) ?_
  refine z_sipush (v := 365) d_Mo_pass_7 (by decide) ?_
  refine z_callS0 (m_Mo_in hs0 hst x 1 _) ym_Mo_in qM_Mo_115 qS_Mo_in d_Mo_pass_10 rfl (Nat.le_of_ble_eq_true rfl) ⟨Nat.zero_le _, Nat.zero_le _⟩ ⟨Nat.le_of_ble_eq_true rfl, Nat.le_of_ble_eq_true rfl⟩ ?_
  refine z_if_ne 22 d_Mo_pass_13 (by decide) (fun c_13 => ?_) (fun c_13 => ?_)
  · skip
    refine z_aload_n 0 d_Mo_pass_22 rfl rfl ?_
    refine z_get zc_Mo 2 (by decide) qF_Mo_102 hM1.mo rfl d_Mo_pass_23 ?_
    refine z_iload_n 1 d_Mo_pass_26 rfl rfl ?_
    refine z_iadd d_Mo_pass_27 ?_
    refine z_sipush (v := 999) d_Mo_pass_28 (by decide) ?_
    refine z_icmp_le 40 d_Mo_pass_31 (by decide) (fun c_31 => ?_) (fun c_31 => ?_)
    · skip
      refine z_aload_n 0 d_Mo_pass_40 rfl rfl ?_
      refine z_dup d_Mo_pass_41 rfl ?_
      refine z_get zc_Mo 2 (by decide) qF_Mo_102 hM1.mo rfl d_Mo_pass_42 ?_
      refine z_iload_n 1 d_Mo_pass_45 rfl rfl ?_
      refine z_iadd d_Mo_pass_46 ?_
      refine z_put zc_Mo 2 (by decide) qF_Mo_102 hM1.mo rfl rfl rfl (Nat.le_of_ble_eq_true rfl) d_Mo_pass_47 ?_
      obtain ⟨hM2, hF2⟩ := hM1.put0 (V1 0 0) (V1 0 1) (V1 0 2 + x) (V1 0 3) (V1 0 4) (V1 0 5)
      refine z_aload_n 0 d_Mo_pass_50 rfl rfl ?_
      refine z_get zc_Mo 2 (by decide) qF_Mo_102 hM2.mo rfl d_Mo_pass_51 ?_
      exact z_iret rfl (Or.inr (Or.inr ⟨(zb_n0 _).mp c_13, by rw [← eD]; exact Int32.not_lt.mpr c_31, V1, hK1, hT1, hM2, hF1.tr hF2, rfl⟩)) (by first | decide | omega) (by first | decide | omega) d_Mo_pass_54
    · skip
      refine z_aload_n 0 d_Mo_pass_34 rfl rfl ?_
      refine z_iconst (v := 2) d_Mo_pass_35 (by decide) ?_
      refine z_callV0 (m_Mo_no hs0 hst hM1.mo 2) ym_Mo_no qM_Mo_119 qI_Mo_no qV_Mo_Mo_no zc_Mo hM1.mo d_Mo_pass_36 rfl (Nat.le_of_ble_eq_true rfl) ⟨Nat.zero_le _, Nat.zero_le _⟩ ⟨Nat.le_of_ble_eq_true rfl, Nat.le_of_ble_eq_true rfl⟩ ?_
      obtain ⟨V9, hM9, hK9, hF9, hT9⟩ := hM1.putT 2
      exact z_iret rfl (Or.inr (Or.inl ⟨(zb_n0 _).mp c_13, by rw [← eD]; exact Int32.not_le.mp c_31, ⟨rfl, V9, hM9, hT9, hK1.tr hK9, hF1.tr hF9⟩⟩)) (by first | decide | omega) (by first | decide | omega) d_Mo_pass_39
  · skip
    refine z_aload_n 0 d_Mo_pass_16 rfl rfl ?_
    refine z_iconst (v := 1) d_Mo_pass_17 (by decide) ?_
    refine z_callV0 (m_Mo_no hs0 hst hM1.mo 1) ym_Mo_no qM_Mo_119 qI_Mo_no qV_Mo_Mo_no zc_Mo hM1.mo d_Mo_pass_18 rfl (Nat.le_of_ble_eq_true rfl) ⟨Nat.zero_le _, Nat.zero_le _⟩ ⟨Nat.le_of_ble_eq_true rfl, Nat.le_of_ble_eq_true rfl⟩ ?_
    obtain ⟨V9, hM9, hK9, hF9, hT9⟩ := hM1.putT 1
    exact z_iret rfl (Or.inl ⟨(zb_0 _).mp c_13, ⟨rfl, V9, hM9, hT9, hK1.tr hK9, hF1.tr hF9⟩⟩) (by first | decide | omega) (by first | decide | omega) d_Mo_pass_21
theorem d_Mo_lie_0 : decode c_Mo_lie 0 = .ok (.aload_n 0, 1) := by decide +kernel
theorem d_Mo_lie_1 : decode c_Mo_lie 1 = .ok (.iconst 0, 1) := by decide +kernel
theorem d_Mo_lie_2 : decode c_Mo_lie 2 = .ok (.putfield 36, 3) := by decide +kernel
theorem d_Mo_lie_5 : decode c_Mo_lie 5 = .ok (.aload_n 0, 1) := by decide +kernel
theorem d_Mo_lie_6 : decode c_Mo_lie 6 = .ok (.iload_n 1, 1) := by decide +kernel
theorem d_Mo_lie_7 : decode c_Mo_lie 7 = .ok (.invokevirtual 125, 3) := by decide +kernel
theorem d_Mo_lie_10 : decode c_Mo_lie 10 = .ok (.ifCond .ne 9, 3) := by decide +kernel
theorem d_Mo_lie_13 : decode c_Mo_lie 13 = .ok (.aload_n 0, 1) := by decide +kernel
theorem d_Mo_lie_14 : decode c_Mo_lie 14 = .ok (.iconst 1, 1) := by decide +kernel
theorem d_Mo_lie_15 : decode c_Mo_lie 15 = .ok (.invokevirtual 119, 3) := by decide +kernel
theorem d_Mo_lie_18 : decode c_Mo_lie 18 = .ok (.ireturn, 1) := by decide +kernel
theorem d_Mo_lie_19 : decode c_Mo_lie 19 = .ok (.iload_n 2, 1) := by decide +kernel
theorem d_Mo_lie_20 : decode c_Mo_lie 20 = .ok (.iconst 0, 1) := by decide +kernel
theorem d_Mo_lie_21 : decode c_Mo_lie 21 = .ok (.bipush 96, 2) := by decide +kernel
theorem d_Mo_lie_23 : decode c_Mo_lie 23 = .ok (.invokestatic 115, 3) := by decide +kernel
theorem d_Mo_lie_26 : decode c_Mo_lie 26 = .ok (.ifCond .ne 9, 3) := by decide +kernel
theorem d_Mo_lie_29 : decode c_Mo_lie 29 = .ok (.aload_n 0, 1) := by decide +kernel
theorem d_Mo_lie_30 : decode c_Mo_lie 30 = .ok (.iconst 2, 1) := by decide +kernel
theorem d_Mo_lie_31 : decode c_Mo_lie 31 = .ok (.invokevirtual 119, 3) := by decide +kernel
theorem d_Mo_lie_34 : decode c_Mo_lie 34 = .ok (.ireturn, 1) := by decide +kernel
theorem d_Mo_lie_35 : decode c_Mo_lie 35 = .ok (.aload_n 0, 1) := by decide +kernel
theorem d_Mo_lie_36 : decode c_Mo_lie 36 = .ok (.getfield 16, 3) := by decide +kernel
theorem d_Mo_lie_39 : decode c_Mo_lie 39 = .ok (.iload_n 1, 1) := by decide +kernel
theorem d_Mo_lie_40 : decode c_Mo_lie 40 = .ok (.invokeinterface 51 2, 5) := by decide +kernel
theorem d_Mo_lie_45 : decode c_Mo_lie 45 = .ok (.checkcast 57, 3) := by decide +kernel
theorem d_Mo_lie_48 : decode c_Mo_lie 48 = .ok (.getfield 59, 3) := by decide +kernel
theorem d_Mo_lie_51 : decode c_Mo_lie 51 = .ok (.istore_n 3, 1) := by decide +kernel
theorem d_Mo_lie_52 : decode c_Mo_lie 52 = .ok (.aload_n 0, 1) := by decide +kernel
theorem d_Mo_lie_53 : decode c_Mo_lie 53 = .ok (.getfield 16, 3) := by decide +kernel
theorem d_Mo_lie_56 : decode c_Mo_lie 56 = .ok (.iload_n 1, 1) := by decide +kernel
theorem d_Mo_lie_57 : decode c_Mo_lie 57 = .ok (.invokeinterface 51 2, 5) := by decide +kernel
theorem d_Mo_lie_62 : decode c_Mo_lie 62 = .ok (.checkcast 57, 3) := by decide +kernel
theorem d_Mo_lie_65 : decode c_Mo_lie 65 = .ok (.iload_n 2, 1) := by decide +kernel
theorem d_Mo_lie_66 : decode c_Mo_lie 66 = .ok (.putfield 59, 3) := by decide +kernel
theorem d_Mo_lie_69 : decode c_Mo_lie 69 = .ok (.iload_n 3, 1) := by decide +kernel
theorem d_Mo_lie_70 : decode c_Mo_lie 70 = .ok (.ireturn, 1) := by decide +kernel
set_option maxHeartbeats 4000000 in
set_option maxRecDepth 100000 in
theorem m_Mo_lieE {g0 : State} {d : zD} {l : Launch} {a0 : Array Value} (hs0 : zS0 d a0 g0) (hst : l.stackTraces = false) {G : zG} {B : Nat → Nat} {V : Nat → Nat → Int32} {nk ns ne ec : Nat} (hM : zM d B V nk ns ne ec G) (x w : Int32) : zMet g0 d l y_Mo_lie c_Mo_lie 4 ((Option.some Jvm.ClassFile.FieldType.int)) 11 0 0 [.ref (B 0), .int x, .int w] (G) (fun r G1 => (zin x 0 (nI nk - 1) = false ∧ mThr d B nk ns ne ec V G 1 r G1) ∨ (∃ k, k < nk ∧ x = nI k ∧ ((zin w 0 96 = false ∧ mThr d B nk ns ne ec V G 2 r G1) ∨ (zin w 0 96 = true ∧ ∃ V1, zKn V V1 ∧ V1 0 0 = 0 ∧ zM d B (rset V1 (100 + k) (zk5 (V1 (100 + k)) w (V1 (100 + k) 4))) nk ns ne ec G1 ∧ mFr B nk ns ne G G1 ∧ r = some (.int (V1 (100 + k) 3)))))) (zNo) := by
  have hnk : nk ≤ 8 := hM.2.1
  have hns : ns ≤ 6 := hM.2.2.1
  have hne : ne ≤ 64 := hM.2.2.2.1
  have hp2 : 2 ^ nk ≤ 256 := Nat.pow_le_pow_right (n := 2) (by decide) hnk
  refine z_entry hs0 hst (by decide) (Nat.le_of_ble_eq_true rfl) (fun p e s m args below meth c => ?_)
  refine z_aload_n 0 d_Mo_lie_0 rfl rfl ?_
  refine z_iconst (v := 0) d_Mo_lie_1 (by decide) ?_
  refine z_put zc_Mo 0 (by decide) qF_Mo_36 hM.mo rfl rfl rfl (Nat.le_of_ble_eq_true rfl) d_Mo_lie_2 ?_
  obtain ⟨V1, hM1, hK1, hF1, hT1⟩ := hM.putT 0
  refine z_aload_n 0 d_Mo_lie_5 rfl rfl ?_
  refine z_iload_n 1 d_Mo_lie_6 rfl rfl ?_
  refine z_callV0 (m_Mo_isKeeper hs0 hst hM1 x) ym_Mo_isKeeper qM_Mo_125 qI_Mo_isKeeper qV_Mo_Mo_isKeeper zc_Mo hM1.mo d_Mo_lie_7 rfl (Nat.le_of_ble_eq_true rfl) ⟨Nat.zero_le _, Nat.zero_le _⟩ ⟨Nat.le_of_ble_eq_true rfl, Nat.le_of_ble_eq_true rfl⟩ ?_
  refine z_if_ne 19 d_Mo_lie_10 (by decide) (fun c_10 => ?_) (fun c_10 => ?_)
  · skip
    obtain ⟨ki, hki, rfl⟩ := zin_n ((zb_n0 _).mp c_10) (by omega)
    refine z_iload_n 2 d_Mo_lie_19 rfl rfl ?_
    refine z_iconst (v := 0) d_Mo_lie_20 (by decide) ?_
    refine z_bipush (v := 96) d_Mo_lie_21 (by decide) ?_
    refine z_callS0 (m_Mo_in hs0 hst w 0 _) ym_Mo_in qM_Mo_115 qS_Mo_in d_Mo_lie_23 rfl (Nat.le_of_ble_eq_true rfl) ⟨Nat.zero_le _, Nat.zero_le _⟩ ⟨Nat.le_of_ble_eq_true rfl, Nat.le_of_ble_eq_true rfl⟩ ?_
    refine z_if_ne 35 d_Mo_lie_26 (by decide) (fun c_26 => ?_) (fun c_26 => ?_)
    · skip
      refine z_aload_n 0 d_Mo_lie_35 rfl rfl ?_
      refine z_get zc_Mo 6 (by decide) qF_Mo_16 hM1.mo rfl d_Mo_lie_36 ?_
      refine z_iload_n 1 d_Mo_lie_39 rfl rfl ?_
      refine z_callF0 (m_AL_get hs0 hst (hM1.kA hki) hki (if_pos hki)) ym_AL_get zF_AL_get qM_Mo_51 zc_AL (hM1.kA hki).1 d_Mo_lie_40 rfl (Nat.le_of_ble_eq_true rfl) ⟨Nat.zero_le _, Nat.zero_le _⟩ ⟨Nat.le_of_ble_eq_true rfl, Nat.le_of_ble_eq_true rfl⟩ ?_
      refine z_castS zc_MK qK_Mo_57 (hM1.ke hki) d_Mo_lie_45 ?_
      refine z_get zc_MK 3 (by decide) qF_Mo_59 (hM1.ke hki) rfl d_Mo_lie_48 ?_
      refine z_istore_n (L' := [(3, _), (0, _), (1, _), (2, _)]) d_Mo_lie_51 rfl (by decide) rfl ?_
      refine z_aload_n 1 d_Mo_lie_52 rfl rfl ?_
      refine z_get zc_Mo 6 (by decide) qF_Mo_16 hM1.mo rfl d_Mo_lie_53 ?_
      refine z_iload_n 2 d_Mo_lie_56 rfl rfl ?_
      refine z_callF0 (m_AL_get hs0 hst (hM1.kA hki) hki (if_pos hki)) ym_AL_get zF_AL_get qM_Mo_51 zc_AL (hM1.kA hki).1 d_Mo_lie_57 rfl (Nat.le_of_ble_eq_true rfl) ⟨Nat.zero_le _, Nat.zero_le _⟩ ⟨Nat.le_of_ble_eq_true rfl, Nat.le_of_ble_eq_true rfl⟩ ?_
      refine z_castS zc_MK qK_Mo_57 (hM1.ke hki) d_Mo_lie_62 ?_
      refine z_iload_n 3 d_Mo_lie_65 rfl rfl ?_
      refine z_put zc_MK 3 (by decide) qF_Mo_59 (hM1.ke hki) rfl rfl rfl (Nat.le_of_ble_eq_true rfl) d_Mo_lie_66 ?_
      refine z_iload_n 0 d_Mo_lie_69 rfl rfl ?_
      exact z_iret rfl (by
          obtain ⟨b, eb⟩ := hM1.no hki
          have hp := hM1.putk hki w b
          rw [← eb] at hp
          exact Or.inr ⟨ki, hki, rfl, Or.inr ⟨(zb_n0 _).mp c_26, V1, hK1, hT1, hp.1, hF1.tr hp.2, rfl⟩⟩) (by first | decide | omega) (by first | decide | omega) d_Mo_lie_70
    · skip
      refine z_aload_n 0 d_Mo_lie_29 rfl rfl ?_
      refine z_iconst (v := 2) d_Mo_lie_30 (by decide) ?_
      refine z_callV0 (m_Mo_no hs0 hst hM1.mo 2) ym_Mo_no qM_Mo_119 qI_Mo_no qV_Mo_Mo_no zc_Mo hM1.mo d_Mo_lie_31 rfl (Nat.le_of_ble_eq_true rfl) ⟨Nat.zero_le _, Nat.zero_le _⟩ ⟨Nat.le_of_ble_eq_true rfl, Nat.le_of_ble_eq_true rfl⟩ ?_
      obtain ⟨V9, hM9, hK9, hF9, hT9⟩ := hM1.putT 2
      exact z_iret rfl (Or.inr ⟨ki, hki, rfl, Or.inl ⟨(zb_0 _).mp c_26, ⟨rfl, V9, hM9, hT9, hK1.tr hK9, hF1.tr hF9⟩⟩⟩) (by first | decide | omega) (by first | decide | omega) d_Mo_lie_34
  · skip
    refine z_aload_n 0 d_Mo_lie_13 rfl rfl ?_
    refine z_iconst (v := 1) d_Mo_lie_14 (by decide) ?_
    refine z_callV0 (m_Mo_no hs0 hst hM1.mo 1) ym_Mo_no qM_Mo_119 qI_Mo_no qV_Mo_Mo_no zc_Mo hM1.mo d_Mo_lie_15 rfl (Nat.le_of_ble_eq_true rfl) ⟨Nat.zero_le _, Nat.zero_le _⟩ ⟨Nat.le_of_ble_eq_true rfl, Nat.le_of_ble_eq_true rfl⟩ ?_
    obtain ⟨V9, hM9, hK9, hF9, hT9⟩ := hM1.putT 1
    exact z_iret rfl (Or.inl ⟨(zb_0 _).mp c_10, ⟨rfl, V9, hM9, hT9, hK1.tr hK9, hF1.tr hF9⟩⟩) (by first | decide | omega) (by first | decide | omega) d_Mo_lie_18
theorem d_Mo_freeze_0 : decode c_Mo_freeze 0 = .ok (.aload_n 0, 1) := by decide +kernel
theorem d_Mo_freeze_1 : decode c_Mo_freeze 1 = .ok (.iconst 0, 1) := by decide +kernel
theorem d_Mo_freeze_2 : decode c_Mo_freeze 2 = .ok (.putfield 36, 3) := by decide +kernel
theorem d_Mo_freeze_5 : decode c_Mo_freeze 5 = .ok (.iload_n 1, 1) := by decide +kernel
theorem d_Mo_freeze_6 : decode c_Mo_freeze 6 = .ok (.iconst 0, 1) := by decide +kernel
theorem d_Mo_freeze_7 : decode c_Mo_freeze 7 = .ok (.iconst 1, 1) := by decide +kernel
theorem d_Mo_freeze_8 : decode c_Mo_freeze 8 = .ok (.invokestatic 115, 3) := by decide +kernel
theorem d_Mo_freeze_11 : decode c_Mo_freeze 11 = .ok (.ifCond .eq 11, 3) := by decide +kernel
theorem d_Mo_freeze_14 : decode c_Mo_freeze 14 = .ok (.aload_n 0, 1) := by decide +kernel
theorem d_Mo_freeze_15 : decode c_Mo_freeze 15 = .ok (.iload_n 2, 1) := by decide +kernel
theorem d_Mo_freeze_16 : decode c_Mo_freeze 16 = .ok (.invokevirtual 147, 3) := by decide +kernel
theorem d_Mo_freeze_19 : decode c_Mo_freeze 19 = .ok (.ifCond .ne 9, 3) := by decide +kernel
theorem d_Mo_freeze_22 : decode c_Mo_freeze 22 = .ok (.aload_n 0, 1) := by decide +kernel
theorem d_Mo_freeze_23 : decode c_Mo_freeze 23 = .ok (.iconst 1, 1) := by decide +kernel
theorem d_Mo_freeze_24 : decode c_Mo_freeze 24 = .ok (.invokevirtual 119, 3) := by decide +kernel
theorem d_Mo_freeze_27 : decode c_Mo_freeze 27 = .ok (.ireturn, 1) := by decide +kernel
theorem d_Mo_freeze_28 : decode c_Mo_freeze 28 = .ok (.aload_n 0, 1) := by decide +kernel
theorem d_Mo_freeze_29 : decode c_Mo_freeze 29 = .ok (.getfield 20, 3) := by decide +kernel
theorem d_Mo_freeze_32 : decode c_Mo_freeze 32 = .ok (.iload_n 2, 1) := by decide +kernel
theorem d_Mo_freeze_33 : decode c_Mo_freeze 33 = .ok (.invokeinterface 51 2, 5) := by decide +kernel
theorem d_Mo_freeze_38 : decode c_Mo_freeze 38 = .ok (.checkcast 47, 3) := by decide +kernel
theorem d_Mo_freeze_41 : decode c_Mo_freeze 41 = .ok (.astore 4, 2) := by decide +kernel
theorem d_Mo_freeze_43 : decode c_Mo_freeze 43 = .ok (.aload 4, 2) := by decide +kernel
theorem d_Mo_freeze_45 : decode c_Mo_freeze 45 = .ok (.iload_n 3, 1) := by decide +kernel
theorem d_Mo_freeze_46 : decode c_Mo_freeze 46 = .ok (.ifCond .eq 15, 3) := by decide +kernel
theorem d_Mo_freeze_49 : decode c_Mo_freeze 49 = .ok (.aload 4, 2) := by decide +kernel
theorem d_Mo_freeze_51 : decode c_Mo_freeze 51 = .ok (.getfield 108, 3) := by decide +kernel
theorem d_Mo_freeze_54 : decode c_Mo_freeze 54 = .ok (.iconst 1, 1) := by decide +kernel
theorem d_Mo_freeze_55 : decode c_Mo_freeze 55 = .ok (.iload_n 1, 1) := by decide +kernel
theorem d_Mo_freeze_56 : decode c_Mo_freeze 56 = .ok (.ishl, 1) := by decide +kernel
theorem d_Mo_freeze_57 : decode c_Mo_freeze 57 = .ok (.ior, 1) := by decide +kernel
theorem d_Mo_freeze_58 : decode c_Mo_freeze 58 = .ok (.goto 14, 3) := by decide +kernel
theorem d_Mo_freeze_61 : decode c_Mo_freeze 61 = .ok (.aload 4, 2) := by decide +kernel
theorem d_Mo_freeze_63 : decode c_Mo_freeze 63 = .ok (.getfield 108, 3) := by decide +kernel
theorem d_Mo_freeze_66 : decode c_Mo_freeze 66 = .ok (.iconst 1, 1) := by decide +kernel
theorem d_Mo_freeze_67 : decode c_Mo_freeze 67 = .ok (.iload_n 1, 1) := by decide +kernel
theorem d_Mo_freeze_68 : decode c_Mo_freeze 68 = .ok (.ishl, 1) := by decide +kernel
theorem d_Mo_freeze_69 : decode c_Mo_freeze 69 = .ok (.iconst (-1), 1) := by decide +kernel
theorem d_Mo_freeze_70 : decode c_Mo_freeze 70 = .ok (.ixor, 1) := by decide +kernel
theorem d_Mo_freeze_71 : decode c_Mo_freeze 71 = .ok (.iand, 1) := by decide +kernel
theorem d_Mo_freeze_72 : decode c_Mo_freeze 72 = .ok (.putfield 108, 3) := by decide +kernel
theorem d_Mo_freeze_75 : decode c_Mo_freeze 75 = .ok (.aload 4, 2) := by decide +kernel
theorem d_Mo_freeze_77 : decode c_Mo_freeze 77 = .ok (.getfield 108, 3) := by decide +kernel
theorem d_Mo_freeze_80 : decode c_Mo_freeze 80 = .ok (.invokestatic 66, 3) := by decide +kernel
theorem d_Mo_freeze_83 : decode c_Mo_freeze 83 = .ok (.ireturn, 1) := by decide +kernel
set_option maxHeartbeats 4000000 in
set_option maxRecDepth 100000 in
theorem m_Mo_freezeE {g0 : State} {d : zD} {l : Launch} {a0 : Array Value} (hs0 : zS0 d a0 g0) (hst : l.stackTraces = false) {G : zG} {B : Nat → Nat} {V : Nat → Nat → Int32} {nk ns ne ec : Nat} (hM : zM d B V nk ns ne ec G) (x w x3 : Int32) : zMet g0 d l y_Mo_freeze c_Mo_freeze 5 ((Option.some Jvm.ClassFile.FieldType.int)) 11 0 0 [.ref (B 0), .int x, .int w, .int x3] (G) (fun r G1 => ((zin x 0 1 = false ∨ zin w 0 (nI ns - 1) = false) ∧ mThr d B nk ns ne ec V G 1 r G1) ∨ (zin x 0 1 = true ∧ ∃ k, k < ns ∧ w = nI k ∧ ∃ V1, zKn V V1 ∧ V1 0 0 = 0 ∧ zM d B (rset V1 (200 + k) (zs6 (V1 (200 + k)) (V1 (200 + k) 3) (if x3 = 0 then V1 (200 + k) 4 &&& ((1 <<< (x &&& 31)) ^^^ (-1)) else V1 (200 + k) 4 ||| (1 <<< (x &&& 31))) (V1 (200 + k) 5))) nk ns ne ec G1 ∧ mFr B nk ns ne G G1 ∧ ∃ v, r = some (.int v) ∧ ∀ n, n < 512 → (if x3 = 0 then V1 (200 + k) 4 &&& ((1 <<< (x &&& 31)) ^^^ (-1)) else V1 (200 + k) 4 ||| (1 <<< (x &&& 31))) = nI n → v = nI (zpop 9 n))) (zNo) := by
  have hnk : nk ≤ 8 := hM.2.1
  have hns : ns ≤ 6 := hM.2.2.1
  have hne : ne ≤ 64 := hM.2.2.2.1
  have hp2 : 2 ^ nk ≤ 256 := Nat.pow_le_pow_right (n := 2) (by decide) hnk
  refine z_entry hs0 hst (by decide) (Nat.le_of_ble_eq_true rfl) (fun p e s m args below meth c => ?_)
  refine z_aload_n 0 d_Mo_freeze_0 rfl rfl ?_
  refine z_iconst (v := 0) d_Mo_freeze_1 (by decide) ?_
  refine z_put zc_Mo 0 (by decide) qF_Mo_36 hM.mo rfl rfl rfl (Nat.le_of_ble_eq_true rfl) d_Mo_freeze_2 ?_
  obtain ⟨V1, hM1, hK1, hF1, hT1⟩ := hM.putT 0
  refine z_iload_n 1 d_Mo_freeze_5 rfl rfl ?_
  refine z_iconst (v := 0) d_Mo_freeze_6 (by decide) ?_
  refine z_iconst (v := 1) d_Mo_freeze_7 (by decide) ?_
  refine z_callS0 (m_Mo_in hs0 hst x 0 _) ym_Mo_in qM_Mo_115 qS_Mo_in d_Mo_freeze_8 rfl (Nat.le_of_ble_eq_true rfl) ⟨Nat.zero_le _, Nat.zero_le _⟩ ⟨Nat.le_of_ble_eq_true rfl, Nat.le_of_ble_eq_true rfl⟩ ?_
  refine z_if_eq 22 d_Mo_freeze_11 (by decide) (fun c_11 => ?_) (fun c_11 => ?_)
  · skip
    refine z_aload_n 0 d_Mo_freeze_22 rfl rfl ?_
    refine z_iconst (v := 1) d_Mo_freeze_23 (by decide) ?_
    refine z_callV0 (m_Mo_no hs0 hst hM1.mo 1) ym_Mo_no qM_Mo_119 qI_Mo_no qV_Mo_Mo_no zc_Mo hM1.mo d_Mo_freeze_24 rfl (Nat.le_of_ble_eq_true rfl) ⟨Nat.zero_le _, Nat.zero_le _⟩ ⟨Nat.le_of_ble_eq_true rfl, Nat.le_of_ble_eq_true rfl⟩ ?_
    obtain ⟨V9, hM9, hK9, hF9, hT9⟩ := hM1.putT 1
    exact z_iret rfl (Or.inl ⟨by first | exact Or.inl ((zb_0 _).mp c_11) | exact Or.inr ((zb_0 _).mp c_19), ⟨rfl, V9, hM9, hT9, hK1.tr hK9, hF1.tr hF9⟩⟩) (by first | decide | omega) (by first | decide | omega) d_Mo_freeze_27
  · skip
    refine z_aload_n 0 d_Mo_freeze_14 rfl rfl ?_
    refine z_iload_n 2 d_Mo_freeze_15 rfl rfl ?_
    refine z_callV0 (m_Mo_isSecret hs0 hst hM1 w) ym_Mo_isSecret qM_Mo_147 qI_Mo_isSecret qV_Mo_Mo_isSecret zc_Mo hM1.mo d_Mo_freeze_16 rfl (Nat.le_of_ble_eq_true rfl) ⟨Nat.zero_le _, Nat.zero_le _⟩ ⟨Nat.le_of_ble_eq_true rfl, Nat.le_of_ble_eq_true rfl⟩ ?_
    refine z_if_ne 28 d_Mo_freeze_19 (by decide) (fun c_19 => ?_) (fun c_19 => ?_)
    · skip
      obtain ⟨si, hsi, rfl⟩ := zin_n ((zb_n0 _).mp c_19) (by omega)
      refine z_aload_n 0 d_Mo_freeze_28 rfl rfl ?_
      refine z_get zc_Mo 7 (by decide) qF_Mo_20 hM1.mo rfl d_Mo_freeze_29 ?_
      refine z_iload_n 2 d_Mo_freeze_32 rfl rfl ?_
      refine z_callF0 (m_AL_get hs0 hst (hM1.sA hsi) hsi (if_pos hsi)) ym_AL_get zF_AL_get qM_Mo_51 zc_AL (hM1.sA hsi).1 d_Mo_freeze_33 rfl (Nat.le_of_ble_eq_true rfl) ⟨Nat.zero_le _, Nat.zero_le _⟩ ⟨Nat.le_of_ble_eq_true rfl, Nat.le_of_ble_eq_true rfl⟩ ?_
      refine z_castS zc_MS qK_Mo_47 (hM1.se hsi).1 d_Mo_freeze_38 ?_
      refine z_astore (L' := [(4, _), (0, _), (1, _), (2, _), (3, _)]) d_Mo_freeze_41 (by decide) rfl ?_
      refine z_aload 0 d_Mo_freeze_43 rfl ?_
      refine z_iload_n 4 d_Mo_freeze_45 rfl rfl ?_
      refine z_if_eq 61 d_Mo_freeze_46 (by decide) (fun c_46 => ?_) (fun c_46 => ?_)
      · skip
        refine z_aload 0 d_Mo_freeze_61 rfl ?_
        refine z_get zc_MS 4 (by decide) qF_Mo_108 (hM1.se hsi).1 rfl d_Mo_freeze_63 ?_
        refine z_iconst (v := 1) d_Mo_freeze_66 (by decide) ?_
        refine z_iload_n 2 d_Mo_freeze_67 rfl rfl ?_
        refine z_ishl d_Mo_freeze_68 ?_
        refine z_iconst (v := (-1)) d_Mo_freeze_69 (by decide) ?_
        refine z_ixor d_Mo_freeze_70 ?_
        refine z_iand d_Mo_freeze_71 ?_
        refine z_put zc_MS 4 (by decide) qF_Mo_108 (hM1.se hsi).1 rfl rfl rfl (Nat.le_of_ble_eq_true rfl) d_Mo_freeze_72 ?_
        refine z_aload 0 d_Mo_freeze_75 rfl ?_
        refine z_get zc_MS 4 (by decide) qF_Mo_108 zu_s rfl d_Mo_freeze_77 ?_
        refine z_callSp0 ((m_Mo_sizeX hs0 hst _)) ym_Mo_size qM_Mo_66 qS_Mo_size d_Mo_freeze_80 rfl (Nat.le_of_ble_eq_true rfl) ⟨Nat.zero_le _, Nat.zero_le _⟩ ⟨Nat.le_of_ble_eq_true rfl, Nat.le_of_ble_eq_true rfl⟩ (fun r_80 G_80 hp_80 => ?_)
        obtain ⟨⟨v9, rfl, hv9⟩, rfl⟩ := hp_80
        exact z_iret rfl (by
            obtain ⟨b, eb⟩ := hM1.ta hsi
            have hp := fun a : Int32 => hM1.puts hsi (V1 (200 + si) 3) a b
            rw [← eb] at hp
            refine Or.inr ⟨(zb_n0 _).mp c_11, si, hsi, rfl, V1, hK1, hT1, ?_, hF1.tr (hp _).2, v9, rfl, fun n hn e => hv9 n hn ?_⟩
            · first
                | rw [if_pos c_46]; exact (hp _).1
                | rw [if_neg c_46]; exact (hp _).1
            · rw [← e]
              first
                | rw [if_pos c_46]
                | rw [if_neg c_46]) (by first | decide | omega) (by first | decide | omega) d_Mo_freeze_83
      · skip
        refine z_aload 0 d_Mo_freeze_49 rfl ?_
        refine z_get zc_MS 4 (by decide) qF_Mo_108 (hM1.se hsi).1 rfl d_Mo_freeze_51 ?_
        refine z_iconst (v := 1) d_Mo_freeze_54 (by decide) ?_
        refine z_iload_n 2 d_Mo_freeze_55 rfl rfl ?_
        refine z_ishl d_Mo_freeze_56 ?_
        refine z_ior d_Mo_freeze_57 ?_
        refine z_goto 72 d_Mo_freeze_58 (by decide) ?_
        refine z_put zc_MS 4 (by decide) qF_Mo_108 (hM1.se hsi).1 rfl rfl rfl (Nat.le_of_ble_eq_true rfl) d_Mo_freeze_72 ?_
        refine z_aload 0 d_Mo_freeze_75 rfl ?_
        refine z_get zc_MS 4 (by decide) qF_Mo_108 zu_s rfl d_Mo_freeze_77 ?_
        refine z_callSp0 ((m_Mo_sizeX hs0 hst _)) ym_Mo_size qM_Mo_66 qS_Mo_size d_Mo_freeze_80 rfl (Nat.le_of_ble_eq_true rfl) ⟨Nat.zero_le _, Nat.zero_le _⟩ ⟨Nat.le_of_ble_eq_true rfl, Nat.le_of_ble_eq_true rfl⟩ (fun r_80 G_80 hp_80 => ?_)
        obtain ⟨⟨v9, rfl, hv9⟩, rfl⟩ := hp_80
        exact z_iret rfl (by
            obtain ⟨b, eb⟩ := hM1.ta hsi
            have hp := fun a : Int32 => hM1.puts hsi (V1 (200 + si) 3) a b
            rw [← eb] at hp
            refine Or.inr ⟨(zb_n0 _).mp c_11, si, hsi, rfl, V1, hK1, hT1, ?_, hF1.tr (hp _).2, v9, rfl, fun n hn e => hv9 n hn ?_⟩
            · first
                | rw [if_pos c_46]; exact (hp _).1
                | rw [if_neg c_46]; exact (hp _).1
            · rw [← e]
              first
                | rw [if_pos c_46]
                | rw [if_neg c_46]) (by first | decide | omega) (by first | decide | omega) d_Mo_freeze_83
    · skip
      refine z_aload_n 0 d_Mo_freeze_22 rfl rfl ?_
      refine z_iconst (v := 1) d_Mo_freeze_23 (by decide) ?_
      refine z_callV0 (m_Mo_no hs0 hst hM1.mo 1) ym_Mo_no qM_Mo_119 qI_Mo_no qV_Mo_Mo_no zc_Mo hM1.mo d_Mo_freeze_24 rfl (Nat.le_of_ble_eq_true rfl) ⟨Nat.zero_le _, Nat.zero_le _⟩ ⟨Nat.le_of_ble_eq_true rfl, Nat.le_of_ble_eq_true rfl⟩ ?_
      obtain ⟨V9, hM9, hK9, hF9, hT9⟩ := hM1.putT 1
      exact z_iret rfl (Or.inl ⟨by first | exact Or.inl ((zb_0 _).mp c_11) | exact Or.inr ((zb_0 _).mp c_19), ⟨rfl, V9, hM9, hT9, hK1.tr hK9, hF1.tr hF9⟩⟩) (by first | decide | omega) (by first | decide | omega) d_Mo_freeze_27

def zBk (B : Nat → Nat) (nk a b : Nat) : Nat → Nat := fun r => if r = 100 + nk then a else if r = 2 then b else B r
abbrev zk0 (w : Nat → Int32) : va_E := zob 10 [.int (w 0), .int (w 1), .int (w 2), .int (w 3), .int (w 4)]
def zw5 (a b c e f : Int32) : Nat → Int32 | 0 => a | 1 => b | 2 => c | 3 => e | _ => f
section ZMK
variable {d : zD} {B : Nat → Nat} {V : Nat → Nat → Int32} {nk ns ne ec : Nat} {G G1 : zG}
set_option maxHeartbeats 4000000 in
/-- a keeper more -/
theorem zM.newk (h : zM d B V nk ns ne ec G) (hk : nk < 8) {a b : Nat} {f' : Nat → Option Nat} (w : Nat → Int32) (hw4 : ∃ b, w 4 = zb b) (mc : Int32) (ha : G a = none) (hd : (b = B 2 ∧ 0 < nk) ∨ (G b = none ∧ a ≠ b)) (hf : f' = fun j => if j < nk + 1 then some (zBk B nk a b (100 + j)) else none) :
    zM d (zBk B nk a b) (rset (rset V (100 + nk) w) 1 (fun _ => mc)) (nk + 1) ns ne ec (zu (zu (zu G a (zk0 w)) b (zO d 10 f')) (B 1) (zob 2 [.int mc, .ref b, .int (nI (nk + 1))])) ∧ mNw B (zBk B nk a b) nk ns ne (nk + 1) ns ne G ∧ mFr B nk ns ne G (zu (zu (zu G a (zk0 w)) b (zO d 10 f')) (B 1) (zob 2 [.int mc, .ref b, .int (nI (nk + 1))])) := by
  have e1 : ∀ r, r ≠ 100 + nk → r ≠ 2 → zBk B nk a b r = B r := fun r h1 h2 => (if_neg h1).trans (if_neg h2)
  have e2x : zBk B nk a b 2 = b := (if_neg (by omega)).trans (if_pos rfl)
  have ekx : zBk B nk a b (100 + nk) = a := if_pos rfl
  have hold : ∀ r, mlive (nk + 1) ns ne r → r ≠ 100 + nk → r ≠ 2 → mlive nk ns ne r := fun r hr h1 h2 => by unfold mlive at *; omega
  have hna : ∀ r, mlive nk ns ne r → B r ≠ a := h.nn_ ha
  have hab : a ≠ b := by
    rcases hd with ⟨rfl, h0⟩ | ⟨-, h2⟩
    · exact (hna 2 (ml_2 h0)).symm
    · exact h2
  have hbr : ∀ r, mlive nk ns ne r → r ≠ 2 → B r ≠ b := fun r hr h2 e => by
    rcases hd with ⟨rfl, h0⟩ | ⟨hb, -⟩
    · exact h2 (h.1.1 r 2 hr (ml_2 h0) e)
    · exact h.nn_ hb r hr e
  have h5b : B 1 ≠ b := hbr 1 (ml_s 1) (by decide)
  have hbn : (0 < nk ∧ b = B 2) ∨ G b = none := by
    rcases hd with ⟨rfl, h0⟩ | ⟨hb, -⟩
    · exact Or.inl ⟨h0, rfl⟩
    · exact Or.inr hb
  have hNN : ∀ r, mlive (nk + 1) ns ne r → (mlive nk ns ne r ∧ zBk B nk a b r = B r) ∨ G (zBk B nk a b r) = none := fun r hr => by
    by_cases r1 : r = 100 + nk
    · exact Or.inr (by rw [r1, ekx]; exact ha)
    · by_cases r2 : r = 2
      · subst r2
        rcases hbn with ⟨h0, hb⟩ | hb
        · exact Or.inl ⟨ml_2 h0, by rw [e2x]; exact hb⟩
        · exact Or.inr (by rw [e2x]; exact hb)
      · exact Or.inl ⟨hold r hr r1 r2, e1 r r1 r2⟩
  refine ⟨⟨h.1.grow hNN (fun r q hr hq n1 n2 e => ?_) (fun r hr => ?_), ?_⟩, ⟨e1 0 (by omega) (by decide), fun r hr => ?_⟩, ?_⟩
  · have hcl : ∀ z, mlive (nk + 1) ns ne z → G (zBk B nk a b z) = none → z = 100 + nk ∨ z = 2 := fun z hz hn => by
      by_cases z1 : z = 100 + nk
      · exact Or.inl z1
      · by_cases z2 : z = 2
        · exact Or.inr z2
        · rw [e1 z z1 z2] at hn
          exact absurd hn (h.ne0 z (hold z hz z1 z2))
    rcases hcl r hr n1 with r1 | r1 <;> rcases hcl q hq n2 with q1 | q1
    · omega
    · rw [r1, q1, ekx, e2x] at e; exact absurd e hab
    · rw [r1, q1, ekx, e2x] at e; exact absurd e.symm hab
    · omega
  · by_cases r1 : r = 100 + nk
    · subst r1
      rw [ekx, zu_n (hna 1 (ml_s 1)).symm, zu_n hab, zu_s, rset_n (by omega), rset_s, mcell_k (by omega)]
    · by_cases r2 : r = 2
      · subst r2
        rw [e2x, zu_n h5b.symm, zu_s, hf]
        rfl
      · by_cases r3 : r = 1
        · subst r3
          rw [e1 1 (by omega) (by decide), zu_s, rset_s]
          show _ = some (zob 2 [.int mc, .ref (if nk + 1 = 0 then d.2.2 else zBk B nk a b 2), .int (nI (nk + 1))])
          rw [if_neg (by omega), e2x]
        · have hl := hold r hr r1 r2
          rw [e1 r r1 r2, zu_n (fun e => r3 (h.1.1 r 1 hl (ml_s 1) e)), zu_n (hbr r hl r2), zu_n (hna r hl), rset_n r3, rset_n r1]
          refine (h.1.2 r hl).trans (congrArg some ?_)
          have hns := h.2.2.1
          have hne := h.2.2.2.1
          by_cases r4 : r = 3
          · subst r4
            show zob 2 [_, .ref (if ns = 0 then d.2.2 else B 4), _] = zob 2 [_, .ref (if ns = 0 then d.2.2 else zBk B nk a b 4), _]
            rw [e1 4 (by omega) (by decide)]
          · by_cases r5 : r = 4
            · subst r5
              show zO d 10 _ = zO d 10 (fun j => if j < ns then some (zBk B nk a b (200 + j)) else Option.none)
              have : (fun j => if j < ns then some (zBk B nk a b (200 + j)) else Option.none) = (fun j => if j < ns then some (B (200 + j)) else Option.none) := funext fun j => by rw [e1 (200 + j) (by omega) (by omega)]
              rw [this]
            · by_cases r6 : r = 5
              · subst r6
                show zob 2 [_, .ref (if ne = 0 then d.2.2 else B 6), _] = zob 2 [_, .ref (if ne = 0 then d.2.2 else zBk B nk a b 6), _]
                rw [e1 6 (by omega) (by decide)]
              · by_cases r7 : r = 6
                · subst r7
                  show zO d ec _ = zO d ec (fun j => if j < ne then some (zBk B nk a b (500 + j)) else Option.none)
                  have : (fun j => if j < ne then some (zBk B nk a b (500 + j)) else Option.none) = (fun j => if j < ne then some (B (500 + j)) else Option.none) := funext fun j => by rw [e1 (500 + j) (by omega) (by omega)]
                  rw [this]
                · exact (mcell_B r3 r2 r4 r5 r6 r7 (fun q q1 q2 q3 q4 q5 => e1 q (by omega) q3) (fun g1 g2 => ⟨e1 _ (by omega) (by omega), e1 _ (by omega) (by omega)⟩)).symm
  · obtain ⟨i1, i2, i3, i4, i5, i6, i7, i8, i9⟩ := h.2
    refine ⟨by omega, i2, i3, i4, i5, fun q hq => by rw [rset_n (by omega), rset_n (by omega)]; exact i6 q hq, fun q hq j h1 h2 => by rw [rset_n (by omega), rset_n (by omega)]; exact i7 q hq j (by omega) h2, fun q hq => by rw [rset_n (by omega), rset_n (by omega)]; exact i8 q hq, fun q hq => ?_⟩
    by_cases ek : q = nk
    · subst ek; rw [rset_n (by omega), rset_s]; exact hw4
    · rw [rset_n (by omega), rset_n (by omega)]; exact i9 q (by omega)
  · rcases hNN r hr with ⟨l, e⟩ | e
    · exact Or.inl ⟨r, l, e⟩
    · exact Or.inr e
  · have f1 : mFr B nk ns ne G (zu G a (zk0 w)) := mFr.nw zFr.rf ha
    have f2 : mFr B nk ns ne G (zu (zu G a (zk0 w)) b (zO d 10 f')) := by
      rcases hbn with ⟨h0, rfl⟩ | hb
      · exact f1.tr (zM.frput (ml_2 h0) rfl)
      · exact f1.nw hb
    exact f2.tr (zM.frput (ml_s 1) rfl)

end ZMK
theorem mFr.none_ {d : zD} {B : Nat → Nat} {V : Nat → Nat → Int32} {nk ns ne ec : Nat} {G G2 : zG} {b : Nat} (hF : mFr B nk ns ne G G2) (h : zM d B V nk ns ne ec G2) (hb : G2 b = none) : G b = none := by
  cases e : G b with
  | none => rfl
  | some v => rw [hF b v e (fun r hr => (h.nn_ hb r hr).symm)] at hb; cases hb

theorem d_Mo_keeper_0 : decode c_Mo_keeper 0 = .ok (.aload_n 0, 1) := by decide +kernel
theorem d_Mo_keeper_1 : decode c_Mo_keeper 1 = .ok (.iconst 0, 1) := by decide +kernel
theorem d_Mo_keeper_2 : decode c_Mo_keeper 2 = .ok (.putfield 36, 3) := by decide +kernel
theorem d_Mo_keeper_5 : decode c_Mo_keeper 5 = .ok (.iload_n 1, 1) := by decide +kernel
theorem d_Mo_keeper_6 : decode c_Mo_keeper 6 = .ok (.iconst 0, 1) := by decide +kernel
theorem d_Mo_keeper_7 : decode c_Mo_keeper 7 = .ok (.iconst 3, 1) := by decide +kernel
theorem d_Mo_keeper_8 : decode c_Mo_keeper 8 = .ok (.invokestatic 115, 3) := by decide +kernel
theorem d_Mo_keeper_11 : decode c_Mo_keeper 11 = .ok (.ifCond .eq 23, 3) := by decide +kernel
theorem d_Mo_keeper_14 : decode c_Mo_keeper 14 = .ok (.iload_n 2, 1) := by decide +kernel
theorem d_Mo_keeper_15 : decode c_Mo_keeper 15 = .ok (.iconst 1, 1) := by decide +kernel
theorem d_Mo_keeper_16 : decode c_Mo_keeper 16 = .ok (.bipush 99, 2) := by decide +kernel
theorem d_Mo_keeper_18 : decode c_Mo_keeper 18 = .ok (.invokestatic 115, 3) := by decide +kernel
theorem d_Mo_keeper_21 : decode c_Mo_keeper 21 = .ok (.ifCond .eq 13, 3) := by decide +kernel
theorem d_Mo_keeper_24 : decode c_Mo_keeper 24 = .ok (.iload_n 3, 1) := by decide +kernel
theorem d_Mo_keeper_25 : decode c_Mo_keeper 25 = .ok (.iconst 0, 1) := by decide +kernel
theorem d_Mo_keeper_26 : decode c_Mo_keeper 26 = .ok (.bipush 100, 2) := by decide +kernel
theorem d_Mo_keeper_28 : decode c_Mo_keeper 28 = .ok (.invokestatic 115, 3) := by decide +kernel
theorem d_Mo_keeper_31 : decode c_Mo_keeper 31 = .ok (.ifCond .ne 9, 3) := by decide +kernel
theorem d_Mo_keeper_34 : decode c_Mo_keeper 34 = .ok (.aload_n 0, 1) := by decide +kernel
theorem d_Mo_keeper_35 : decode c_Mo_keeper 35 = .ok (.iconst 1, 1) := by decide +kernel
theorem d_Mo_keeper_36 : decode c_Mo_keeper 36 = .ok (.invokevirtual 119, 3) := by decide +kernel
theorem d_Mo_keeper_39 : decode c_Mo_keeper 39 = .ok (.ireturn, 1) := by decide +kernel
theorem d_Mo_keeper_40 : decode c_Mo_keeper 40 = .ok (.aload_n 0, 1) := by decide +kernel
theorem d_Mo_keeper_41 : decode c_Mo_keeper 41 = .ok (.getfield 16, 3) := by decide +kernel
theorem d_Mo_keeper_44 : decode c_Mo_keeper 44 = .ok (.invokeinterface 94 1, 5) := by decide +kernel
theorem d_Mo_keeper_49 : decode c_Mo_keeper 49 = .ok (.bipush 8, 2) := by decide +kernel
theorem d_Mo_keeper_51 : decode c_Mo_keeper 51 = .ok (.if_icmp .ne 9, 3) := by decide +kernel
theorem d_Mo_keeper_54 : decode c_Mo_keeper 54 = .ok (.aload_n 0, 1) := by decide +kernel
theorem d_Mo_keeper_55 : decode c_Mo_keeper 55 = .ok (.iconst 2, 1) := by decide +kernel
theorem d_Mo_keeper_56 : decode c_Mo_keeper 56 = .ok (.invokevirtual 119, 3) := by decide +kernel
theorem d_Mo_keeper_59 : decode c_Mo_keeper 59 = .ok (.ireturn, 1) := by decide +kernel
theorem d_Mo_keeper_60 : decode c_Mo_keeper 60 = .ok (.aload_n 0, 1) := by decide +kernel
theorem d_Mo_keeper_61 : decode c_Mo_keeper 61 = .ok (.getfield 16, 3) := by decide +kernel
theorem d_Mo_keeper_64 : decode c_Mo_keeper 64 = .ok (.new 57, 3) := by decide +kernel
theorem d_Mo_keeper_67 : decode c_Mo_keeper 67 = .ok (.dup, 1) := by decide +kernel
theorem d_Mo_keeper_68 : decode c_Mo_keeper 68 = .ok (.iload_n 1, 1) := by decide +kernel
theorem d_Mo_keeper_69 : decode c_Mo_keeper 69 = .ok (.iload_n 2, 1) := by decide +kernel
theorem d_Mo_keeper_70 : decode c_Mo_keeper 70 = .ok (.iload_n 3, 1) := by decide +kernel
theorem d_Mo_keeper_71 : decode c_Mo_keeper 71 = .ok (.invokespecial 122, 3) := by decide +kernel
theorem d_Mo_keeper_74 : decode c_Mo_keeper 74 = .ok (.invokeinterface 111 2, 5) := by decide +kernel
theorem d_Mo_keeper_79 : decode c_Mo_keeper 79 = .ok (.pop, 1) := by decide +kernel
theorem d_Mo_keeper_80 : decode c_Mo_keeper 80 = .ok (.aload_n 0, 1) := by decide +kernel
theorem d_Mo_keeper_81 : decode c_Mo_keeper 81 = .ok (.getfield 16, 3) := by decide +kernel
theorem d_Mo_keeper_84 : decode c_Mo_keeper 84 = .ok (.invokeinterface 94 1, 5) := by decide +kernel
theorem d_Mo_keeper_89 : decode c_Mo_keeper 89 = .ok (.iconst 1, 1) := by decide +kernel
theorem d_Mo_keeper_90 : decode c_Mo_keeper 90 = .ok (.isub, 1) := by decide +kernel
theorem d_Mo_keeper_91 : decode c_Mo_keeper 91 = .ok (.ireturn, 1) := by decide +kernel
set_option maxHeartbeats 4000000 in
set_option maxRecDepth 100000 in
theorem m_Mo_keeperE {g0 : State} {d : zD} {l : Launch} {a0 : Array Value} (hs0 : zS0 d a0 g0) (hst : l.stackTraces = false) {G : zG} {B : Nat → Nat} {V : Nat → Nat → Int32} {nk ns ne ec : Nat} (hM : zM d B V nk ns ne ec G) (x z w : Int32) : zMet g0 d l y_Mo_keeper c_Mo_keeper 4 ((Option.some Jvm.ClassFile.FieldType.int)) 9 2 85 [.ref (B 0), .int x, .int z, .int w] (G) (fun r G1 => (zkok x z w = false ∧ mThr d B nk ns ne ec V G 1 r G1) ∨ (zkok x z w = true ∧ nk = 8 ∧ mThr d B nk ns ne ec V G 2 r G1) ∨ (zkok x z w = true ∧ nk < 8 ∧ r = some (.int (nI nk)) ∧ ∃ V1, zKn V V1 ∧ V1 0 0 = 0 ∧ ∃ B' mc, zM d B' (rset (rset V1 (100 + nk) (zw5 x z w 0 0)) 1 (fun _ => mc)) (nk + 1) ns ne ec G1 ∧ mNw B B' nk ns ne (nk + 1) ns ne G ∧ mFr B nk ns ne G G1)) (zNo) := by
  have hnk : nk ≤ 8 := hM.2.1
  have hns : ns ≤ 6 := hM.2.2.1
  have hne : ne ≤ 64 := hM.2.2.2.1
  have hp2 : 2 ^ nk ≤ 256 := Nat.pow_le_pow_right (n := 2) (by decide) hnk
  refine z_entry hs0 hst (by decide) (Nat.le_of_ble_eq_true rfl) (fun p e s m args below meth c => ?_)
  refine z_aload_n 0 d_Mo_keeper_0 rfl rfl ?_
  refine z_iconst (v := 0) d_Mo_keeper_1 (by decide) ?_
  refine z_put zc_Mo 0 (by decide) qF_Mo_36 hM.mo rfl rfl rfl (Nat.le_of_ble_eq_true rfl) d_Mo_keeper_2 ?_
  obtain ⟨V1, hM1, hK1, hF1, hT1⟩ := hM.putT 0
  refine z_iload_n 1 d_Mo_keeper_5 rfl rfl ?_
  refine z_iconst (v := 0) d_Mo_keeper_6 (by decide) ?_
  refine z_iconst (v := 3) d_Mo_keeper_7 (by decide) ?_
  refine z_callS0 (m_Mo_in hs0 hst x 0 _) ym_Mo_in qM_Mo_115 qS_Mo_in d_Mo_keeper_8 rfl (Nat.le_of_ble_eq_true rfl) ⟨by decide, by decide⟩ ⟨Nat.le_of_ble_eq_true rfl, Nat.le_of_ble_eq_true rfl⟩ ?_
  refine z_if_eq 34 d_Mo_keeper_11 (by decide) (fun c_11 => ?_) (fun c_11 => ?_)
  · skip
    refine z_aload_n 0 d_Mo_keeper_34 rfl rfl ?_
    refine z_iconst (v := 1) d_Mo_keeper_35 (by decide) ?_
    refine z_callV0 (m_Mo_no hs0 hst hM1.mo 1) ym_Mo_no qM_Mo_119 qI_Mo_no qV_Mo_Mo_no zc_Mo hM1.mo d_Mo_keeper_36 rfl (Nat.le_of_ble_eq_true rfl) ⟨by decide, by decide⟩ ⟨Nat.le_of_ble_eq_true rfl, Nat.le_of_ble_eq_true rfl⟩ ?_
    obtain ⟨V9, hM9, hK9, hF9, hT9⟩ := hM1.putT 1
    exact z_iret rfl (Or.inl ⟨by unfold zkok; first | (rw [(zb_0 _).mp c_11]; rfl) | (rw [(zb_0 _).mp c_21, Bool.false_and, Bool.and_false]) | (rw [(zb_0 _).mp c_31, Bool.and_false, Bool.and_false]), ⟨rfl, V9, hM9, hT9, hK1.tr hK9, hF1.tr hF9⟩⟩) (by first | decide | omega) (by first | decide | omega) d_Mo_keeper_39
  · skip
    refine z_iload_n 2 d_Mo_keeper_14 rfl rfl ?_
    refine z_iconst (v := 1) d_Mo_keeper_15 (by decide) ?_
    refine z_bipush (v := 99) d_Mo_keeper_16 (by decide) ?_
    refine z_callS0 (m_Mo_in hs0 hst z 1 _) ym_Mo_in qM_Mo_115 qS_Mo_in d_Mo_keeper_18 rfl (Nat.le_of_ble_eq_true rfl) ⟨by decide, by decide⟩ ⟨Nat.le_of_ble_eq_true rfl, Nat.le_of_ble_eq_true rfl⟩ ?_
    refine z_if_eq 34 d_Mo_keeper_21 (by decide) (fun c_21 => ?_) (fun c_21 => ?_)
    · skip
      refine z_aload_n 0 d_Mo_keeper_34 rfl rfl ?_
      refine z_iconst (v := 1) d_Mo_keeper_35 (by decide) ?_
      refine z_callV0 (m_Mo_no hs0 hst hM1.mo 1) ym_Mo_no qM_Mo_119 qI_Mo_no qV_Mo_Mo_no zc_Mo hM1.mo d_Mo_keeper_36 rfl (Nat.le_of_ble_eq_true rfl) ⟨by decide, by decide⟩ ⟨Nat.le_of_ble_eq_true rfl, Nat.le_of_ble_eq_true rfl⟩ ?_
      obtain ⟨V9, hM9, hK9, hF9, hT9⟩ := hM1.putT 1
      exact z_iret rfl (Or.inl ⟨by unfold zkok; first | (rw [(zb_0 _).mp c_11]; rfl) | (rw [(zb_0 _).mp c_21, Bool.false_and, Bool.and_false]) | (rw [(zb_0 _).mp c_31, Bool.and_false, Bool.and_false]), ⟨rfl, V9, hM9, hT9, hK1.tr hK9, hF1.tr hF9⟩⟩) (by first | decide | omega) (by first | decide | omega) d_Mo_keeper_39
    · skip
      refine z_iload_n 3 d_Mo_keeper_24 rfl rfl ?_
      refine z_iconst (v := 0) d_Mo_keeper_25 (by decide) ?_
      refine z_bipush (v := 100) d_Mo_keeper_26 (by decide) ?_
      refine z_callS0 (m_Mo_in hs0 hst w 0 _) ym_Mo_in qM_Mo_115 qS_Mo_in d_Mo_keeper_28 rfl (Nat.le_of_ble_eq_true rfl) ⟨by decide, by decide⟩ ⟨Nat.le_of_ble_eq_true rfl, Nat.le_of_ble_eq_true rfl⟩ ?_
      refine z_if_ne 40 d_Mo_keeper_31 (by decide) (fun c_31 => ?_) (fun c_31 => ?_)
      · skip
        have hok : zkok x z w = true := by unfold zkok; rw [(zb_n0 _).mp c_11, (zb_n0 _).mp c_21, (zb_n0 _).mp c_31]; rfl
        refine z_aload_n 0 d_Mo_keeper_40 rfl rfl ?_
        refine z_get zc_Mo 6 (by decide) qF_Mo_16 hM1.mo rfl d_Mo_keeper_41 ?_
        refine z_callF0 (m_AL_size hs0 hst hM1.kl) ym_AL_size zF_AL_size qM_Mo_94 zc_AL hM1.kl d_Mo_keeper_44 rfl (Nat.le_of_ble_eq_true rfl) ⟨by decide, by decide⟩ ⟨Nat.le_of_ble_eq_true rfl, Nat.le_of_ble_eq_true rfl⟩ ?_
        refine z_bipush (v := (nI 8)) d_Mo_keeper_49 (by decide) ?_
        refine z_icmp_ne 60 d_Mo_keeper_51 (by decide) (fun c_51 => ?_) (fun c_51 => ?_)
        · skip
          refine z_aload_n 0 d_Mo_keeper_60 rfl rfl ?_
          refine z_get zc_Mo 6 (by decide) qF_Mo_16 hM1.mo rfl d_Mo_keeper_61 ?_
          have hk8 : nk < 8 := Nat.lt_of_le_of_ne hnk fun e => c_51 (by rw [e])
          refine z_new (fs := [.int 0, .int 0, .int 0, .int 0, .int 0]) zc_MK qK_Mo_57 qO_MK qN_MK (by decide) ⟨by decide, by decide⟩ d_Mo_keeper_64 (fun a ha hab => ?_)
          have hMo : ∀ u, zM d B V1 nk ns ne ec (zu (zu G (B 0) (zmh B 0 (V 0 1) (V 0 2) (V 0 3) (V 0 4) (V 0 5))) a u) := fun u => hM1.out (hM1.nn_ ha)
          refine z_dup d_Mo_keeper_67 rfl ?_
          refine z_iload_n 1 d_Mo_keeper_68 rfl rfl ?_
          refine z_iload_n 2 d_Mo_keeper_69 rfl rfl ?_
          refine z_iload_n 3 d_Mo_keeper_70 rfl rfl ?_
          refine z_callI0 (m_MK_init hs0 hst x z w zu_s) ym_MK_init rfl qM_Mo_122 qI_MK_init d_Mo_keeper_71 rfl (Nat.le_of_ble_eq_true rfl) ⟨by decide, by decide⟩ ⟨Nat.le_of_ble_eq_true rfl, Nat.le_of_ble_eq_true rfl⟩ ?_
          refine z_one ?_
          refine z_callFp1 ((m_AL_addM hs0 hst (hMo _).kl (hMo _).kq.1 (hMo _).kq.2 (Or.inl ⟨10, _, _, _, _, _, zc_MK, qT_MK_Oj, zu_s⟩))) ym_AL_add_1 zF_AL_add_1 qM_Mo_111 zc_AL (hMo _).kl d_Mo_keeper_74 rfl (Nat.le_of_ble_eq_true rfl) ⟨by decide, by decide⟩ ⟨Nat.le_of_ble_eq_true rfl, Nat.le_of_ble_eq_true rfl⟩ (fun r_74 G_74 hp_74 => ?_)
          obtain ⟨hr_74, b, cap', f', hd9, hf1, hf2, hf3, hg_74⟩ := hp_74
          obtain rfl : r_74 = some (.int 1) := hr_74
          have hd8 : (b = B 2 ∧ 0 < nk) ∨ ((zu G (B 0) (zmh B 0 (V 0 1) (V 0 2) (V 0 3) (V 0 4) (V 0 5))) b = none ∧ a ≠ b) := by
            rcases hd9 with ⟨q1, q2, -⟩ | ⟨q1, q2, q3⟩
            · exact Or.inl ⟨q1, q2⟩
            · have q4 : a ≠ b := fun e => by rw [← e, zu_s] at q1; cases q1
              exact Or.inr ⟨by rw [zu_n q4.symm] at q1; exact q1, q4⟩
          have hcap : cap' = 10 := by
            rcases hd9 with ⟨-, -, q1, -⟩ | ⟨-, -, q1⟩ <;> omega
          subst hcap
          have hfe : f' = fun j => if j < nk + 1 then some (zBk B nk a b (100 + j)) else none := funext fun j => by
            by_cases e1 : j < nk
            · rw [if_pos (by omega), hf1 j e1]
              refine (if_pos e1).trans ?_
              exact congrArg some ((if_neg (by omega)).trans (if_neg (by omega))).symm
            · by_cases e2 : j = nk
              · subst e2
                rw [if_pos (by omega), hf2]
                exact congrArg some (if_pos rfl).symm
              · rw [if_neg (by omega)]
                exact hf3 j (by omega) (fun i hi => if_neg (by omega))
          have hnw := hM1.newk hk8 (zw5 x z w 0 0) ⟨false, rfl⟩ (V1 1 0 + 1) ha hd8 hfe
          have hmo9 := hnw.1.mo
          rw [hnw.2.1.1] at hmo9
          have hsl9 := hnw.1.kl
          subst hg_74
          refine z_pop d_Mo_keeper_79 rfl ?_
          refine z_aload_n 0 d_Mo_keeper_80 rfl rfl ?_
          refine z_get zc_Mo 6 (by decide) qF_Mo_16 hmo9 rfl d_Mo_keeper_81 ?_
          refine z_callF0 ((m_AL_size hs0 hst hsl9)) ym_AL_size zF_AL_size qM_Mo_94 zc_AL hsl9 d_Mo_keeper_84 rfl (Nat.le_of_ble_eq_true rfl) ⟨by decide, by decide⟩ ⟨Nat.le_of_ble_eq_true rfl, Nat.le_of_ble_eq_true rfl⟩ ?_
          refine z_iconst (v := (nI 1)) d_Mo_keeper_89 (by decide) ?_
          refine z_isub d_Mo_keeper_90 ?_
          exact z_iret rfl (Or.inr (Or.inr ⟨hok, hk8, congrArg (fun q => some (Value.int q)) (nI_pred nk), V1, hK1, hT1, _, _, hnw.1, mNw.rf.tr hnw.2.1 hF1 hM.ne0, hF1.tr hnw.2.2⟩)) (by first | decide | omega) (by first | decide | omega) d_Mo_keeper_91
        · skip
          refine z_aload_n 0 d_Mo_keeper_54 rfl rfl ?_
          refine z_iconst (v := 2) d_Mo_keeper_55 (by decide) ?_
          refine z_callV0 (m_Mo_no hs0 hst hM1.mo 2) ym_Mo_no qM_Mo_119 qI_Mo_no qV_Mo_Mo_no zc_Mo hM1.mo d_Mo_keeper_56 rfl (Nat.le_of_ble_eq_true rfl) ⟨by decide, by decide⟩ ⟨Nat.le_of_ble_eq_true rfl, Nat.le_of_ble_eq_true rfl⟩ ?_
          obtain ⟨V9, hM9, hK9, hF9, hT9⟩ := hM1.putT 2
          exact z_iret rfl (Or.inr (Or.inl ⟨hok, (nI_eq (by omega) (by decide)).mp (by first | exact c_51 | exact Decidable.not_not.mp c_51), ⟨rfl, V9, hM9, hT9, hK1.tr hK9, hF1.tr hF9⟩⟩)) (by first | decide | omega) (by first | decide | omega) d_Mo_keeper_59
      · skip
        refine z_aload_n 0 d_Mo_keeper_34 rfl rfl ?_
        refine z_iconst (v := 1) d_Mo_keeper_35 (by decide) ?_
        refine z_callV0 (m_Mo_no hs0 hst hM1.mo 1) ym_Mo_no qM_Mo_119 qI_Mo_no qV_Mo_Mo_no zc_Mo hM1.mo d_Mo_keeper_36 rfl (Nat.le_of_ble_eq_true rfl) ⟨by decide, by decide⟩ ⟨Nat.le_of_ble_eq_true rfl, Nat.le_of_ble_eq_true rfl⟩ ?_
        obtain ⟨V9, hM9, hK9, hF9, hT9⟩ := hM1.putT 1
        exact z_iret rfl (Or.inl ⟨by unfold zkok; first | (rw [(zb_0 _).mp c_11]; rfl) | (rw [(zb_0 _).mp c_21, Bool.false_and, Bool.and_false]) | (rw [(zb_0 _).mp c_31, Bool.and_false, Bool.and_false]), ⟨rfl, V9, hM9, hT9, hK1.tr hK9, hF1.tr hF9⟩⟩) (by first | decide | omega) (by first | decide | omega) d_Mo_keeper_39
