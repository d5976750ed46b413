/-! the two constructors, run: a machine of frames, cut into pieces -/
def jc_M (k : Nat) : jv_MI := (bif Nat.blt k 110 then (bif Nat.blt k 55 then (bif Nat.blt k 27 then (bif Nat.blt k 13 then (bif Nat.blt k 6 then (bif Nat.blt k 3 then (bif Nat.blt k 1 then jm_C_init else (bif Nat.blt k 2 then jm_Member_init else jm_Bill_init)) else (bif Nat.blt k 4 then jm_Sections_init else (bif Nat.blt k 5 then jm_Motions_init else jm_Foresight_init))) else (bif Nat.blt k 9 then (bif Nat.blt k 7 then jm_Ballot_init else (bif Nat.blt k 8 then jm_Text_init else jm_Reader_init)) else (bif Nat.blt k 11 then (bif Nat.blt k 10 then jm_Machine_init else jm_Conference_init) else (bif Nat.blt k 12 then jm_Tray_init else jm_JS_length)))) else (bif Nat.blt k 20 then (bif Nat.blt k 16 then (bif Nat.blt k 14 then jm_JS_coder else (bif Nat.blt k 15 then jm_JS_charAt else jm_JS_isLatin1)) else (bif Nat.blt k 18 then (bif Nat.blt k 17 then jm_JL_charAt else jm_JS_checkIndex) else (bif Nat.blt k 19 then jm_JP_checkIndex else jm_Reader_add))) else (bif Nat.blt k 23 then (bif Nat.blt k 21 then jm_Reader_read else (bif Nat.blt k 22 then jm_Reader_goOn else jm_Reader_byteAt)) else (bif Nat.blt k 25 then (bif Nat.blt k 24 then jm_Reader_isLetter else jm_Reader_readWord) else (bif Nat.blt k 26 then jm_Reader_isKnown else jm_Reader_fail))))) else (bif Nat.blt k 41 then (bif Nat.blt k 34 then (bif Nat.blt k 30 then (bif Nat.blt k 28 then jm_Reader_isDigit else (bif Nat.blt k 29 then jm_Reader_readNumber else jm_Reader_readSign)) else (bif Nat.blt k 32 then (bif Nat.blt k 31 then jm_Reader_expect else jm_Reader_readSome) else (bif Nat.blt k 33 then jm_Reader_readAll else jm_Reader_readClaim))) else (bif Nat.blt k 37 then (bif Nat.blt k 35 then jm_Reader_readOpened else (bif Nat.blt k 36 then jm_Text_add else jm_Reader_readOne)) else (bif Nat.blt k 39 then (bif Nat.blt k 38 then jm_Reader_readSum else jm_Reader_readTerm) else (bif Nat.blt k 40 then jm_C_member else jm_C_like)))) else (bif Nat.blt k 48 then (bif Nat.blt k 44 then (bif Nat.blt k 42 then jm_C_isMember else (bif Nat.blt k 43 then jm_C_isWord else jm_Member_setLiking)) else (bif Nat.blt k 46 then (bif Nat.blt k 45 then jm_Member_liking else jm_C_comes) else (bif Nat.blt k 47 then jm_C_pair else jm_C_part))) else (bif Nat.blt k 51 then (bif Nat.blt k 49 then jm_C_ask else (bif Nat.blt k 50 then jm_C_memberTold else jm_C_bill)) else (bif Nat.blt k 53 then (bif Nat.blt k 52 then jm_C_section else jm_C_isBill) else (bif Nat.blt k 54 then jm_Sections_isFull else jm_Sections_change)))))) else (bif Nat.blt k 82 then (bif Nat.blt k 68 then (bif Nat.blt k 61 then (bif Nat.blt k 58 then (bif Nat.blt k 56 then jm_Sections_canChange else (bif Nat.blt k 57 then jm_Sections_putIn else jm_Sections_takeOut)) else (bif Nat.blt k 59 then jm_C_billTold else (bif Nat.blt k 60 then jm_C_placeOnCalendar else jm_JI_bitCount))) else (bif Nat.blt k 64 then (bif Nat.blt k 62 then jm_C_word else (bif Nat.blt k 63 then jm_Sections_wordAt else jm_C_worth)) else (bif Nat.blt k 66 then (bif Nat.blt k 65 then jm_Sections_worthTo else jm_C_report) else (bif Nat.blt k 67 then jm_C_putOnCalendar else jm_C_sign)))) else (bif Nat.blt k 75 then (bif Nat.blt k 71 then (bif Nat.blt k 69 then jm_C_call else (bif Nat.blt k 70 then jm_C_feed else jm_C_text)) else (bif Nat.blt k 73 then (bif Nat.blt k 72 then jm_C_says else jm_C_isText) else (bif Nat.blt k 74 then jm_C_isKind else jm_Machine_sets))) else (bif Nat.blt k 78 then (bif Nat.blt k 76 then jm_C_comesTo else (bif Nat.blt k 77 then jm_C_countThere else jm_Machine_setsHouse)) else (bif Nat.blt k 80 then (bif Nat.blt k 79 then jm_Machine_run else jm_Machine_joined) else (bif Nat.blt k 81 then jm_C_act else jm_C_hindrance))))) else (bif Nat.blt k 96 then (bif Nat.blt k 89 then (bif Nat.blt k 85 then (bif Nat.blt k 83 then jm_C_takesWord else (bif Nat.blt k 84 then jm_C_isAmendment else jm_C_floor)) else (bif Nat.blt k 87 then (bif Nat.blt k 86 then jm_Sections_has else jm_Motions_has) else (bif Nat.blt k 88 then jm_C_ruled else jm_C_partyOf))) else (bif Nat.blt k 92 then (bif Nat.blt k 90 then jm_Motions_isFull else (bif Nat.blt k 91 then jm_Motions_push else jm_C_why)) else (bif Nat.blt k 94 then (bif Nat.blt k 93 then jm_C_vote else jm_C_tally) else (bif Nat.blt k 95 then jm_C_choice else jm_C_bySign)))) else (bif Nat.blt k 103 then (bif Nat.blt k 99 then (bif Nat.blt k 97 then jm_Sections_gain else (bif Nat.blt k 98 then jm_C_carry else jm_C_leaveFloor)) else (bif Nat.blt k 101 then (bif Nat.blt k 100 then jm_C_amendFloor else jm_C_settle) else (bif Nat.blt k 102 then jm_C_voted else jm_C_would))) else (bif Nat.blt k 106 then (bif Nat.blt k 104 then jm_C_motion else (bif Nat.blt k 105 then jm_C_yield else jm_C_day)) else (bif Nat.blt k 108 then (bif Nat.blt k 107 then jm_C_tell else jm_C_foresee) else (bif Nat.blt k 109 then jm_Foresight_namesEachOnce else jm_Foresight_begin))))))) else (bif Nat.blt k 165 then (bif Nat.blt k 137 then (bif Nat.blt k 123 then (bif Nat.blt k 116 then (bif Nat.blt k 113 then (bif Nat.blt k 111 then jm_Sections_copyFrom else (bif Nat.blt k 112 then jm_C_foreseeOne else jm_Foresight_goesOn)) else (bif Nat.blt k 114 then jm_Foresight_worthBehindAll else (bif Nat.blt k 115 then jm_C_best else jm_C_search))) else (bif Nat.blt k 119 then (bif Nat.blt k 117 then jm_Foresight_weigh else (bif Nat.blt k 118 then jm_C_confer else jm_Conference_bring)) else (bif Nat.blt k 121 then (bif Nat.blt k 120 then jm_Conference_measure else jm_Conference_leastNext) else (bif Nat.blt k 122 then jm_Conference_placeFrom else jm_C_conferred)))) else (bif Nat.blt k 130 then (bif Nat.blt k 126 then (bif Nat.blt k 124 then jm_C_count else (bif Nat.blt k 125 then jm_C_tray else jm_C_isTray)) else (bif Nat.blt k 128 then (bif Nat.blt k 127 then jm_Tray_reset else jm_C_cell) else (bif Nat.blt k 129 then jm_Tray_has else jm_C_made))) else (bif Nat.blt k 133 then (bif Nat.blt k 131 then jm_C_taken else (bif Nat.blt k 132 then jm_C_isUnder else jm_M_init)) else (bif Nat.blt k 135 then (bif Nat.blt k 134 then jm_M_reads else jm_M_next) else (bif Nat.blt k 136 then jm_M_byteAt else jm_M_isLetter))))) else (bif Nat.blt k 151 then (bif Nat.blt k 144 then (bif Nat.blt k 140 then (bif Nat.blt k 138 then jm_M_spelled else (bif Nat.blt k 139 then jm_M_isDigit else jm_M_number)) else (bif Nat.blt k 142 then (bif Nat.blt k 141 then jm_M_need else jm_M_isWrong) else (bif Nat.blt k 143 then jm_M_cannot else jm_M_either))) else (bif Nat.blt k 147 then (bif Nat.blt k 145 then jm_M_both else (bif Nat.blt k 146 then jm_M_not else jm_M_opens)) else (bif Nat.blt k 149 then (bif Nat.blt k 148 then jm_M_emit else jm_M_added) else (bif Nat.blt k 150 then jm_M_term else jm_M_one)))) else (bif Nat.blt k 158 then (bif Nat.blt k 154 then (bif Nat.blt k 152 then jm_M_member else (bif Nat.blt k 153 then jm_M_in else jm_M_like)) else (bif Nat.blt k 156 then (bif Nat.blt k 155 then jm_M_isMember else jm_M_isWord) else (bif Nat.blt k 157 then jm_M_comes else jm_M_pair))) else (bif Nat.blt k 161 then (bif Nat.blt k 159 then jm_M_part else (bif Nat.blt k 160 then jm_M_ask else jm_M_memberTold)) else (bif Nat.blt k 163 then (bif Nat.blt k 162 then jm_M_bill else jm_M_section) else (bif Nat.blt k 164 then jm_M_isBill else jm_M_billTold)))))) else (bif Nat.blt k 192 then (bif Nat.blt k 178 then (bif Nat.blt k 171 then (bif Nat.blt k 168 then (bif Nat.blt k 166 then jm_M_placeOf else (bif Nat.blt k 167 then jm_M_bits else jm_M_word)) else (bif Nat.blt k 169 then jm_M_worth else (bif Nat.blt k 170 then jm_M_takes else jm_M_valued))) else (bif Nat.blt k 174 then (bif Nat.blt k 172 then jm_M_report else (bif Nat.blt k 173 then jm_M_lists else jm_M_sign)) else (bif Nat.blt k 176 then (bif Nat.blt k 175 then jm_M_call else jm_M_feed) else (bif Nat.blt k 177 then jm_M_text else jm_M_says)))) else (bif Nat.blt k 185 then (bif Nat.blt k 181 then (bif Nat.blt k 179 then jm_M_worked else (bif Nat.blt k 180 then jm_M_named else jm_M_there)) else (bif Nat.blt k 183 then (bif Nat.blt k 182 then jm_M_two else jm_M_why) else (bif Nat.blt k 184 then jm_M_isAct else jm_M_hinders))) else (bif Nat.blt k 188 then (bif Nat.blt k 186 then jm_M_ranked else (bif Nat.blt k 187 then jm_M_act else jm_M_acts)) else (bif Nat.blt k 190 then (bif Nat.blt k 189 then jm_M_sets else jm_M_vote) else (bif Nat.blt k 191 then jm_M_counted else jm_M_votes))))) else (bif Nat.blt k 206 then (bif Nat.blt k 199 then (bif Nat.blt k 195 then (bif Nat.blt k 193 then jm_M_leans else (bif Nat.blt k 194 then jm_M_gain else jm_M_isDoable)) else (bif Nat.blt k 197 then (bif Nat.blt k 196 then jm_M_sectionOf else jm_M_carries) else (bif Nat.blt k 198 then jm_M_isUpNoMore else jm_M_does))) else (bif Nat.blt k 202 then (bif Nat.blt k 200 then jm_M_follows else (bif Nat.blt k 201 then jm_M_voted else jm_M_would)) else (bif Nat.blt k 204 then (bif Nat.blt k 203 then jm_M_motion else jm_M_yield) else (bif Nat.blt k 205 then jm_M_day else jm_M_tell)))) else (bif Nat.blt k 213 then (bif Nat.blt k 209 then (bif Nat.blt k 207 then jm_M_foresee else (bif Nat.blt k 208 then jm_M_isOrder else jm_M_foresees)) else (bif Nat.blt k 211 then (bif Nat.blt k 210 then jm_M_best else jm_M_confer) else (bif Nat.blt k 212 then jm_M_brings else jm_M_conferred))) else (bif Nat.blt k 216 then (bif Nat.blt k 214 then jm_M_nextOf else (bif Nat.blt k 215 then jm_M_count else jm_M_tray)) else (bif Nat.blt k 218 then (bif Nat.blt k 217 then jm_M_isTray else jm_M_cell) else (bif Nat.blt k 219 then jm_M_made else jm_M_taken))))))))
theorem jc_M_ok : ∀ k, k < 220 → jv_P[k]? = some (jc_M k)
  | 0, _ => rfl
  | 1, _ => rfl
  | 2, _ => rfl
  | 3, _ => rfl
  | 4, _ => rfl
  | 5, _ => rfl
  | 6, _ => rfl
  | 7, _ => rfl
  | 8, _ => rfl
  | 9, _ => rfl
  | 10, _ => rfl
  | 11, _ => rfl
  | 12, _ => rfl
  | 13, _ => rfl
  | 14, _ => rfl
  | 15, _ => rfl
  | 16, _ => rfl
  | 17, _ => rfl
  | 18, _ => rfl
  | 19, _ => rfl
  | 20, _ => rfl
  | 21, _ => rfl
  | 22, _ => rfl
  | 23, _ => rfl
  | 24, _ => rfl
  | 25, _ => rfl
  | 26, _ => rfl
  | 27, _ => rfl
  | 28, _ => rfl
  | 29, _ => rfl
  | 30, _ => rfl
  | 31, _ => rfl
  | 32, _ => rfl
  | 33, _ => rfl
  | 34, _ => rfl
  | 35, _ => rfl
  | 36, _ => rfl
  | 37, _ => rfl
  | 38, _ => rfl
  | 39, _ => rfl
  | 40, _ => rfl
  | 41, _ => rfl
  | 42, _ => rfl
  | 43, _ => rfl
  | 44, _ => rfl
  | 45, _ => rfl
  | 46, _ => rfl
  | 47, _ => rfl
  | 48, _ => rfl
  | 49, _ => rfl
  | 50, _ => rfl
  | 51, _ => rfl
  | 52, _ => rfl
  | 53, _ => rfl
  | 54, _ => rfl
  | 55, _ => rfl
  | 56, _ => rfl
  | 57, _ => rfl
  | 58, _ => rfl
  | 59, _ => rfl
  | 60, _ => rfl
  | 61, _ => rfl
  | 62, _ => rfl
  | 63, _ => rfl
  | 64, _ => rfl
  | 65, _ => rfl
  | 66, _ => rfl
  | 67, _ => rfl
  | 68, _ => rfl
  | 69, _ => rfl
  | 70, _ => rfl
  | 71, _ => rfl
  | 72, _ => rfl
  | 73, _ => rfl
  | 74, _ => rfl
  | 75, _ => rfl
  | 76, _ => rfl
  | 77, _ => rfl
  | 78, _ => rfl
  | 79, _ => rfl
  | 80, _ => rfl
  | 81, _ => rfl
  | 82, _ => rfl
  | 83, _ => rfl
  | 84, _ => rfl
  | 85, _ => rfl
  | 86, _ => rfl
  | 87, _ => rfl
  | 88, _ => rfl
  | 89, _ => rfl
  | 90, _ => rfl
  | 91, _ => rfl
  | 92, _ => rfl
  | 93, _ => rfl
  | 94, _ => rfl
  | 95, _ => rfl
  | 96, _ => rfl
  | 97, _ => rfl
  | 98, _ => rfl
  | 99, _ => rfl
  | 100, _ => rfl
  | 101, _ => rfl
  | 102, _ => rfl
  | 103, _ => rfl
  | 104, _ => rfl
  | 105, _ => rfl
  | 106, _ => rfl
  | 107, _ => rfl
  | 108, _ => rfl
  | 109, _ => rfl
  | 110, _ => rfl
  | 111, _ => rfl
  | 112, _ => rfl
  | 113, _ => rfl
  | 114, _ => rfl
  | 115, _ => rfl
  | 116, _ => rfl
  | 117, _ => rfl
  | 118, _ => rfl
  | 119, _ => rfl
  | 120, _ => rfl
  | 121, _ => rfl
  | 122, _ => rfl
  | 123, _ => rfl
  | 124, _ => rfl
  | 125, _ => rfl
  | 126, _ => rfl
  | 127, _ => rfl
  | 128, _ => rfl
  | 129, _ => rfl
  | 130, _ => rfl
  | 131, _ => rfl
  | 132, _ => rfl
  | 133, _ => rfl
  | 134, _ => rfl
  | 135, _ => rfl
  | 136, _ => rfl
  | 137, _ => rfl
  | 138, _ => rfl
  | 139, _ => rfl
  | 140, _ => rfl
  | 141, _ => rfl
  | 142, _ => rfl
  | 143, _ => rfl
  | 144, _ => rfl
  | 145, _ => rfl
  | 146, _ => rfl
  | 147, _ => rfl
  | 148, _ => rfl
  | 149, _ => rfl
  | 150, _ => rfl
  | 151, _ => rfl
  | 152, _ => rfl
  | 153, _ => rfl
  | 154, _ => rfl
  | 155, _ => rfl
  | 156, _ => rfl
  | 157, _ => rfl
  | 158, _ => rfl
  | 159, _ => rfl
  | 160, _ => rfl
  | 161, _ => rfl
  | 162, _ => rfl
  | 163, _ => rfl
  | 164, _ => rfl
  | 165, _ => rfl
  | 166, _ => rfl
  | 167, _ => rfl
  | 168, _ => rfl
  | 169, _ => rfl
  | 170, _ => rfl
  | 171, _ => rfl
  | 172, _ => rfl
  | 173, _ => rfl
  | 174, _ => rfl
  | 175, _ => rfl
  | 176, _ => rfl
  | 177, _ => rfl
  | 178, _ => rfl
  | 179, _ => rfl
  | 180, _ => rfl
  | 181, _ => rfl
  | 182, _ => rfl
  | 183, _ => rfl
  | 184, _ => rfl
  | 185, _ => rfl
  | 186, _ => rfl
  | 187, _ => rfl
  | 188, _ => rfl
  | 189, _ => rfl
  | 190, _ => rfl
  | 191, _ => rfl
  | 192, _ => rfl
  | 193, _ => rfl
  | 194, _ => rfl
  | 195, _ => rfl
  | 196, _ => rfl
  | 197, _ => rfl
  | 198, _ => rfl
  | 199, _ => rfl
  | 200, _ => rfl
  | 201, _ => rfl
  | 202, _ => rfl
  | 203, _ => rfl
  | 204, _ => rfl
  | 205, _ => rfl
  | 206, _ => rfl
  | 207, _ => rfl
  | 208, _ => rfl
  | 209, _ => rfl
  | 210, _ => rfl
  | 211, _ => rfl
  | 212, _ => rfl
  | 213, _ => rfl
  | 214, _ => rfl
  | 215, _ => rfl
  | 216, _ => rfl
  | 217, _ => rfl
  | 218, _ => rfl
  | 219, _ => rfl
  | k + 220, h => absurd h (by omega)
def jc_i (n : Nat) (l : List Int) : Nat × List Value := (13, l.map (fun x => .int (Int32.ofInt x)) ++ List.replicate (n - l.length) (.int 0))
def jc_z (n : Nat) (l : List Int) : Nat × List Value := (14, l.map (fun x => .int (Int32.ofInt x)) ++ List.replicate (n - l.length) (.int 0))
def jc_cost (k : Nat) (as : List Value) : Nat × Nat := if k = 4 then (match as with
  | [_, .int n] => (4, 4 * n.toNatClampNeg)
  | _ => (0, 0)) else if k = 1 then (1, 61) else if k = 3 then (1, 10) else if k = 2 then (2, 12) else if k = 5 then (26, 144) else if k = 7 then (2, 205) else if k = 8 then (1, 200) else if k = 9 then (2, 208) else if k = 10 then (13, 142) else if k = 11 then (1, 40) else if k = 0 then (145, 3752) else if k = 132 then (29, 5660) else (0, 0)
abbrev jc_F : Type := Nat × Nat × jv_L × List Value × Nat × Nat × Nat × Nat
abbrev jc_C : Type := List jc_F × jh_H
def jc_step (v : Value) (c : jc_C) : Option jc_C := match c with
  | ([], _) => none
  | ((k, pc, ls, st, z0, l0, mc, ms) :: rest, h) => match jv_at (jc_M k).2.2.2.2.2.2 pc with
    | none => none
    | some e => match jd_nx v (jc_M k) (pc, e) ls st h with
      | none => none
      | some (.inl (pc', ls', st', h')) => if jh_O.1 h' ≤ z0 + mc ∧ jh_O.2.1 h' ≤ l0 + ms then some ((k, pc', ls', st', z0, l0, mc, ms) :: rest, h') else none
      | some (.inr (.inl w)) => if jh_O.1 h = z0 + mc ∧ jh_O.2.1 h = l0 + ms then (match rest with
        | [] => (match w with
          | none => some ([], h)
          | some _ => none)
        | (k2, pc2, ls2, st2, r2) :: rest2 => some ((k2, pc2, ls2, w.toList ++ st2, r2) :: rest2, h)) else none
      | some (.inr (.inr (kk, pc', as, r))) => if kk < 220 ∧ rest.length < 60 ∧ (jv_sl as).length ≤ (jc_M kk).2.2.2.1 ∧ jh_O.1 h + (jc_cost kk as).1 ≤ z0 + mc ∧ jh_O.2.1 h + (jc_cost kk as).2 ≤ l0 + ms then some ((kk, 0, jv_ent (jc_M kk).2.2.2.1 as, [], jh_O.1 h, jh_O.2.1 h, (jc_cost kk as).1, (jc_cost kk as).2) :: (k, pc', ls, r, z0, l0, mc, ms) :: rest, h) else none
noncomputable def jc_run (v : Value) (n : Nat) : jc_C → Option jc_C := Nat.rec (fun c => some c) (fun _ ih c => match jc_step v c with
  | none => none
  | some c' => ih c') n
def jc_K (G : jv_X) (Fin : jh_H → Prop) : List jc_F → Option Value → jh_H → Prop
  | [] => fun w h => w = none ∧ Fin h
  | (k, pc, ls, st, z0, l0, mc, ms) :: rest => fun w h => jv_We jh_O G (jv_wp jh_O G (90 - rest.length)) (jc_M k) z0 l0 mc ms (jc_K G Fin rest) pc ls (w.toList ++ st) h
def jc_H (G : jv_X) (Fin : jh_H → Prop) (c : jc_C) : Prop := match c.1 with
  | [] => Fin c.2
  | f :: rest => jc_K G Fin (f :: rest) none c.2
theorem jc_back {G : jv_X} {Fin : jh_H → Prop} {c c' : jc_C} (hs : jc_step G.2 c = some c') (h' : jc_H G Fin c') : jc_H G Fin c := by
  obtain ⟨fs, h⟩ := c
  match fs, hs with
  | [], hs => cases hs
  | (k, pc, ls, st, z0, l0, mc, ms) :: rest, hs =>
    show jv_We jh_O G (jv_wp jh_O G (90 - rest.length)) (jc_M k) z0 l0 mc ms (jc_K G Fin rest) pc ls st h
    refine jv_We_step ?_
    unfold jc_step at hs
    unfold jv_stp
    cases ha : jv_at (jc_M k).2.2.2.2.2.2 pc with
    | none => simp only [ha] at hs; cases hs
    | some e =>
      simp only [ha] at hs ⊢
      cases hn : jd_nx G.2 (jc_M k) (pc, e) ls st h with
      | none => simp only [hn] at hs; cases hs
      | some o =>
        simp only [hn] at hs
        simp only [jd_nx_e _ _ _ _ _ _ hn]
        match o, hs with
        | .inl (pc', ls', st', h1), hs =>
          obtain ⟨⟨q1, q2⟩, hs⟩ := jh_if hs
          cases hs
          exact ⟨q1, q2, h'⟩
        | .inr (.inl w), hs =>
          by_cases hc : jh_O.1 h = z0 + mc ∧ jh_O.2.1 h = l0 + ms
          · simp only [if_pos hc] at hs
            refine ⟨hc.1, hc.2, ?_⟩
            match rest, w, hs with
            | [], none, hs => cases hs; exact ⟨rfl, h'⟩
            | [], some _, hs => cases hs
            | (k2, pc2, ls2, st2, z2, l2, mc2, ms2) :: rest2, w, hs => cases hs; exact h'
          · simp only [if_neg hc] at hs
            cases hs
        | .inr (.inr (kk, pc', as, r)), hs =>
          obtain ⟨⟨q1, q2, q3, q4, q5⟩, hs⟩ := jh_if hs
          cases hs
          refine ⟨_, _, q4, q5, ?_⟩
          rw [show 90 - rest.length = (90 - (rest.length + 1)) + 1 by omega]
          refine ⟨jc_M kk, jc_M_ok kk q1, q3, ?_⟩
          have h' : jv_We jh_O G (jv_wp jh_O G (90 - (rest.length + 1))) (jc_M kk) (jh_O.1 h) (jh_O.2.1 h) (jc_cost kk as).1 (jc_cost kk as).2 (jc_K G Fin ((k, pc', ls, r, z0, l0, mc, ms) :: rest)) 0 (jv_ent (jc_M kk).2.2.2.1 as) [] h := h'
          have e : jc_K G Fin ((k, pc', ls, r, z0, l0, mc, ms) :: rest) = fun w h => jv_We jh_O G (jv_wp jh_O G (90 - (rest.length + 1) + 1)) (jc_M k) z0 l0 mc ms (jc_K G Fin rest) pc' ls (w.toList ++ r) h := by
            rw [show 90 - (rest.length + 1) + 1 = 90 - rest.length by omega]
            rfl
          rw [e] at h'
          exact h'
theorem jc_runs {G : jv_X} {Fin : jh_H → Prop} : ∀ (n : Nat) {c c' : jc_C}, jc_run G.2 n c = some c' → jc_H G Fin c' → jc_H G Fin c
  | 0, c, c', hs, h' => by cases hs; exact h'
  | n + 1, c, c', hs, h' => by
    have hs : (match jc_step G.2 c with
      | none => none
      | some c' => jc_run G.2 n c') = some c' := hs
    cases h1 : jc_step G.2 c with
    | none => simp only [h1] at hs; cases hs
    | some c1 =>
      simp only [h1] at hs
      exact jc_back h1 (jc_runs n hs h')
def jc_eqF (a b : jc_F) : Bool := a.1 == b.1 && (a.2.1 == b.2.1 && (decide (a.2.2.1 = b.2.2.1) && (decide (a.2.2.2.1 = b.2.2.2.1) && (a.2.2.2.2.1 == b.2.2.2.2.1 && (a.2.2.2.2.2.1 == b.2.2.2.2.2.1 && (a.2.2.2.2.2.2.1 == b.2.2.2.2.2.2.1 && a.2.2.2.2.2.2.2 == b.2.2.2.2.2.2.2))))))
def jc_eqL : List jc_F → List jc_F → Bool
  | [], [] => true
  | a :: l, b :: r => jc_eqF a b && jc_eqL l r
  | _, _ => false
def jc_eqC (o : Option jc_C) (c : jc_C) : Bool := match o with
  | none => false
  | some x => jc_eqL x.1 c.1 && (x.2.1 == c.2.1 && (x.2.2.1 == c.2.2.1 && decide (x.2.2.2 = c.2.2.2)))
theorem jc_eqF_e {a b : jc_F} (h : jc_eqF a b = true) : a = b := by
  obtain ⟨a1, a2, a3, a4, a5, a6, a7, a8⟩ := a
  obtain ⟨b1, b2, b3, b4, b5, b6, b7, b8⟩ := b
  simp only [jc_eqF, Bool.and_eq_true, decide_eq_true_eq, beq_iff_eq] at h
  obtain ⟨rfl, rfl, rfl, rfl, rfl, rfl, rfl, rfl⟩ := h
  rfl
theorem jc_eqL_e : ∀ (l r : List jc_F), jc_eqL l r = true → l = r
  | [], [], _ => rfl
  | a :: l, b :: r, h => by
    obtain ⟨h1, h2⟩ := (Bool.and_eq_true _ _).mp (show (jc_eqF a b && jc_eqL l r) = true from h)
    rw [jc_eqF_e h1, jc_eqL_e l r h2]
  | [], _ :: _, h => by cases h
  | _ :: _, [], h => by cases h
theorem jc_eqC_e {o : Option jc_C} {c : jc_C} (h : jc_eqC o c = true) : o = some c := by
  cases o with
  | none => cases h
  | some x =>
    obtain ⟨x1, x2, x3, x4⟩ := x
    obtain ⟨c1, c2, c3, c4⟩ := c
    simp only [jc_eqC, Bool.and_eq_true, decide_eq_true_eq, beq_iff_eq] at h
    obtain ⟨h1, h2, h3, h4⟩ := h
    rw [jc_eqL_e _ _ h1, h2, h3, h4]
