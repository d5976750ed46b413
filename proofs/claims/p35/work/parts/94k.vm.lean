/-! what a name stands for, in the reference -/
def v_nm (s : jg_H) (x : Int32) : Int32 := if x = 0 then s 146 48 else if x = 1 then s 146 50 else if x = 2 then s 146 17 else if x = 3 then s 146 49 else if x = 4 then f_cnt (s 151) (s 146 0).toInt.toNat else if x = 5 then s 146 0 else if x = 6 then s 146 51 else s 146 52
theorem sp_M_named {G : jv_X} {d : Nat} {B : Option Value → jg_H → Prop} {s : jg_H} (x : Int32) (h0 : 0 ≤ (s 146 0).toInt) (h15 : (s 146 0).toInt ≤ 15) (hB : B (some (.int (v_nm s x))) s) : q_P G (d + 2) 179 [.ref 146, .int x] s B := by
  unfold v_nm at hB
  refine t_M_named (d := d + 1) x ?_ ?_ ?_ ?_ ?there ?_ ?_ ?_
  case there =>
    intro g0 g1 g2 g3 g4
    rw [if_neg g0, if_neg g1, if_neg g2, if_neg g3, if_pos g4] at hB
    refine sp_M_there (s 146 0).toInt.toNat (by omega) (by omega) ?_
    exact t_M_named_68 _ _ hB
  · intro g0; rw [if_pos g0] at hB; exact hB
  · intro g0 g1; rw [if_neg g0, if_pos g1] at hB; exact hB
  · intro g0 g1 g2; rw [if_neg g0, if_neg g1, if_pos g2] at hB; exact hB
  · intro g0 g1 g2 g3; rw [if_neg g0, if_neg g1, if_neg g2, if_pos g3] at hB; exact hB
  · intro g0 g1 g2 g3 g4 g5; rw [if_neg g0, if_neg g1, if_neg g2, if_neg g3, if_neg g4, if_pos g5] at hB; exact hB
  · intro g0 g1 g2 g3 g4 g5 g6; rw [if_neg g0, if_neg g1, if_neg g2, if_neg g3, if_neg g4, if_neg g5, if_pos g6] at hB; exact hB
  · intro g0 g1 g2 g3 g4 g5 g6; rw [if_neg g0, if_neg g1, if_neg g2, if_neg g3, if_neg g4, if_neg g5, if_neg g6] at hB; exact hB
