
/-- an entry is written, or there are 64 -/
def mEn (V V' : Nat → Nat → Int32) (ne ne' : Nat) (kd ab : Int32) : Prop := (ne = 64 ∧ ne' = 64 ∧ V' = V) ∨ (ne < 64 ∧ ne' = ne + 1 ∧ V' = rset (rset V (500 + ne) (upd (upd (upd (upd (fun _ => 0) 0 kd) 1 ab) 2 (V 0 2)) 3 (zr9 (kd * 1009 + 31 * ab + 7 * V 0 2 + nI ne)))) 5 (fun _ => V 5 0 + 1))
def mTwE (d : zD) (B : Nat → Nat) (nk ns ne : Nat) (V : Nat → Nat → Int32) (G : zG) (kd ab : Int32) : Option Value → zG → Prop := fun r G1 => r = none ∧ ∃ B' V' ne' ec', zM d B' V' nk ns ne' ec' G1 ∧ mEn V V' ne ne' kd ab ∧ mNw B B' nk ns ne nk ns ne' G ∧ mFr B nk ns ne G G1 ∧ ∀ q, q < 500 → q ≠ 6 → B' q = B q

