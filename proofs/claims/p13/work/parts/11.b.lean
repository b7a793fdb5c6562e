set_option maxRecDepth 20000 in
set_option maxHeartbeats 4000000 in
theorem x_world (x0 : Nat) (v_xt : Nat) (v_xs : Nat) (v_xq : Nat) (v_xr : Nat) (v_xp : Nat) (v_xl : Nat) (v_xc : Nat) (v_xj : Nat) (v_xe : Nat) (v_xo : Nat) (v_pa : Nat) (v_tb : Nat) (v_n : Nat) (v_fo : Nat) (v_wa : Nat) (v_we : Nat) (v_cf : Nat) (v_sf : Nat) (v_wf : Nat) (v_cg : Nat) (v_sg : Nat) (v_wg : Nat) (v_ch : Nat) (v_sh : Nat) (v_wh : Nat) (v_n2 : Nat) (v_fo2 : Nat) (v_wa2 : Nat) (v_we2 : Nat) (v_cf2 : Nat) (v_sf2 : Nat) (v_wf2 : Nat) (v_cg2 : Nat) (v_sg2 : Nat) (v_wg2 : Nat) (v_ch2 : Nat) (v_sh2 : Nat) (v_wh2 : Nat) (v_ph : Nat) (v_pl : Nat) (v_pr : Nat → Nat) (v_la_t : Nat) (v_la_h : Nat) (v_la_u : Nat) (v_la_o : Nat) (v_la_x : Nat) (v_ch_s : Nat) (v_ch_t : Nat) (v_ch_f : Nat) (v_ch_p : Nat) (v_jj : Nat) (v_jh : Nat) (v_jw : Nat) (v_jo : Nat) (v_jb : Nat) (v_jr : Nat → Nat) (v_jq : Nat → Nat) (v_ef : Nat) (v_ev : Nat) (v_eh : Nat) (v_er : Nat) (v_eq : Nat → Nat) (v_eu : Nat → Nat) (v_et : Nat → Nat) (v_sn : Nat) (v_sp : Nat) (cI cII cB cZ : ClassId) : ([(x0, .inr (10, [.ref v_xt, .ref v_xs, .ref v_xq, .ref v_xr, .ref v_xp, .ref v_xl, .ref v_xc, .ref v_xj, .ref v_xe, .ref v_xo, .ref v_pa, .int 0, .int 0, .int (-1)])), (v_xt, .inr (9, [.ref v_tb, .int 0, .int 0, .int 0, .int 0, .int 0])), (v_xs, .inr (6, [.ref v_n, .ref v_fo, .ref v_wa, .ref v_we])), (v_xq, .inr (6, [.ref v_n2, .ref v_fo2, .ref v_wa2, .ref v_we2])), (v_xr, .inr (7, [.ref v_xt, .ref v_xq, .int 0, .int 0, .int 0, .int 0, .int 0])), (v_xp, .inr (5, [.ref v_xs, .ref v_ph, .int 0, .int 0, .ref v_pl])), (v_xl, .inr (4, [.ref v_xs, .int 0, .int 0, .int 0, .int 0, .ref v_la_t, .int 0, .int 0, .ref v_la_h, .ref v_la_u, .ref v_la_o, .ref v_la_x, .int 0, .int 0, .int 0, .int 0, .int 0, .int 0, .int 0, .int 0])), (v_xc, .inr (0, [.ref v_xs, .ref v_xp, .ref v_xl, .ref v_ch_s, .ref v_ch_t, .ref v_ch_f, .ref v_ch_p, .int 0])), (v_xj, .inr (3, [.ref v_xp, .ref v_xl, .ref v_jj, .int 0, .ref v_jh, .ref v_jw, .ref v_jo, .ref v_jb, .int 0, .int 0, .int 0, .int 0])), (v_xe, .inr (1, [.ref v_xs, .ref v_xl, .ref v_ef, .ref v_ev, .int 0, .ref v_eh, .int 0, .ref v_er, .int 0, .int 0])), (v_xo, .inr (8, [.ref v_sn, .ref v_sp, .int 0])), (v_fo, .inr (2, [.ref v_cf, .int 1, .ref v_sf, .ref v_wf, .int 0, .int 0, .int 0, .int 0, .int 0])), (v_wa, .inr (2, [.ref v_cg, .int 1, .ref v_sg, .ref v_wg, .int 0, .int 0, .int 0, .int 0, .int 0])), (v_we, .inr (2, [.ref v_ch, .int 1, .ref v_sh, .ref v_wh, .int 0, .int 0, .int 0, .int 0, .int 0])), (v_fo2, .inr (2, [.ref v_cf2, .int 1, .ref v_sf2, .ref v_wf2, .int 0, .int 0, .int 0, .int 0, .int 0])), (v_wa2, .inr (2, [.ref v_cg2, .int 1, .ref v_sg2, .ref v_wg2, .int 0, .int 0, .int 0, .int 0, .int 0])), (v_we2, .inr (2, [.ref v_ch2, .int 1, .ref v_sh2, .ref v_wh2, .int 0, .int 0, .int 0, .int 0, .int 0])), (v_tb, .inl (cB, 1000, .inl (fun _ => 0))), (v_n, .inl (cI, 36, .inl g_nums)), (v_n2, .inl (cI, 36, .inl g_nums)), (v_cf, .inl (cI, 80, .inl (upd (fun _ => 0) 0 (-1)))), (v_sf, .inl (cI, 12, .inl (fun _ => 0))), (v_wf, .inl (cI, 16, .inl (fun _ => 0))), (v_cg, .inl (cI, 80, .inl (upd (fun _ => 0) 0 0))), (v_sg, .inl (cI, 12, .inl (fun _ => 0))), (v_wg, .inl (cI, 16, .inl (fun _ => 0))), (v_ch, .inl (cI, 80, .inl (upd (fun _ => 0) 0 0))), (v_sh, .inl (cI, 12, .inl (fun _ => 0))), (v_wh, .inl (cI, 16, .inl (fun _ => 0))), (v_cf2, .inl (cI, 80, .inl (upd (fun _ => 0) 0 (-1)))), (v_sf2, .inl (cI, 12, .inl (fun _ => 0))), (v_wf2, .inl (cI, 16, .inl (fun _ => 0))), (v_cg2, .inl (cI, 80, .inl (upd (fun _ => 0) 0 0))), (v_sg2, .inl (cI, 12, .inl (fun _ => 0))), (v_wg2, .inl (cI, 16, .inl (fun _ => 0))), (v_ch2, .inl (cI, 80, .inl (upd (fun _ => 0) 0 0))), (v_sh2, .inl (cI, 12, .inl (fun _ => 0))), (v_wh2, .inl (cI, 16, .inl (fun _ => 0))), (v_ph, .inl (cI, 96, .inl (fun _ => 1000))), (v_pl, .inl (cII, 4, .inr (.inr (.inr (.inr (fun i => if i < 4 then some (v_pr i) else none)))))), ((v_pr 0), .inl (cI, 96, .inl (fun _ => (-1)))), ((v_pr 1), .inl (cI, 96, .inl (fun _ => 0))), ((v_pr 2), .inl (cI, 96, .inl (fun _ => 0))), ((v_pr 3), .inl (cI, 96, .inl (fun _ => 0))), (v_la_t, .inl (cI, 4, .inl (fun _ => 0))), (v_la_h, .inl (cI, 16, .inl (fun _ => 0))), (v_la_u, .inl (cI, 16, .inl (fun _ => 0))), (v_la_o, .inl (cI, 16, .inl (fun _ => 0))), (v_la_x, .inl (cI, 16, .inl (fun _ => 0))), (v_ch_s, .inl (cI, 21, .inl (fun _ => 0))), (v_ch_t, .inl (cI, 401, .inl (fun _ => 0))), (v_ch_f, .inl (cI, 401, .inl (fun _ => 0))), (v_ch_p, .inl (cI, 400, .inl (fun _ => 0))), (v_jj, .inl (cII, 4, .inr (.inr (.inr (.inr (fun i => if i < 4 then some (v_jr i) else none)))))), ((v_jr 0), .inl (cI, 5, .inl (fun _ => 0))), ((v_jr 1), .inl (cI, 5, .inl (fun _ => 0))), ((v_jr 2), .inl (cI, 5, .inl (fun _ => 0))), ((v_jr 3), .inl (cI, 5, .inl (fun _ => 0))), (v_jh, .inl (cII, 6, .inr (.inr (.inr (.inr (fun i => if i < 6 then some (v_jq i) else none)))))), ((v_jq 0), .inl (cI, 96, .inl (fun _ => 0))), ((v_jq 1), .inl (cI, 96, .inl (fun _ => 0))), ((v_jq 2), .inl (cI, 96, .inl (fun _ => 0))), ((v_jq 3), .inl (cI, 96, .inl (fun _ => 0))), ((v_jq 4), .inl (cI, 96, .inl (fun _ => 0))), ((v_jq 5), .inl (cI, 96, .inl (fun _ => 0))), (v_jw, .inl (cI, 6, .inl (fun _ => 0))), (v_jo, .inl (cI, 5, .inl (fun _ => 0))), (v_jb, .inl (cI, 5, .inl (fun _ => 0))), (v_ef, .inl (cI, 96, .inl (fun _ => 1000))), (v_ev, .inl (cII, 10, .inr (.inr (.inr (.inr (fun i => if i < 10 then some (v_eq i) else none)))))), ((v_eq 0), .inl (cI, 16, .inl (fun _ => 0))), ((v_eq 1), .inl (cI, 16, .inl (fun _ => 0))), ((v_eq 2), .inl (cI, 16, .inl (fun _ => 0))), ((v_eq 3), .inl (cI, 16, .inl (fun _ => 0))), ((v_eq 4), .inl (cI, 16, .inl (fun _ => 0))), ((v_eq 5), .inl (cI, 16, .inl (fun _ => 0))), ((v_eq 6), .inl (cI, 16, .inl (fun _ => 0))), ((v_eq 7), .inl (cI, 16, .inl (fun _ => 0))), ((v_eq 8), .inl (cI, 16, .inl (fun _ => 0))), ((v_eq 9), .inl (cI, 16, .inl (fun _ => 0))), (v_eh, .inl (cII, 3, .inr (.inr (.inr (.inr (fun i => if i < 3 then some (v_eu i) else none)))))), ((v_eu 0), .inl (cI, 30, .inl (fun _ => 0))), ((v_eu 1), .inl (cI, 30, .inl (fun _ => 0))), ((v_eu 2), .inl (cI, 30, .inl (fun _ => 0))), (v_er, .inl (cII, 3, .inr (.inr (.inr (.inr (fun i => if i < 3 then some (v_et i) else none)))))), ((v_et 0), .inl (cI, 20, .inl (fun _ => 0))), ((v_et 1), .inl (cI, 20, .inl (fun _ => 0))), ((v_et 2), .inl (cI, 20, .inl (fun _ => 0))), (v_sn, .inl (cI, 150, .inl (fun _ => 0))), (v_sp, .inl (cI, 150, .inl (fun _ => 0))), (v_pa, .inl (cI, 7, .inl (fun _ => 0)))] : va_W) = xW (kK cI cII cB cZ) (xA [x0, v_xt, v_xs, v_xq, v_xr, v_xp, v_xl, v_xc, v_xj, v_xe, v_xo, v_fo, v_wa, v_we, v_fo2, v_wa2, v_we2, v_tb, v_n, v_n2, v_cf, v_sf, v_wf, v_cg, v_sg, v_wg, v_ch, v_sh, v_wh, v_cf2, v_sf2, v_wf2, v_cg2, v_sg2, v_wg2, v_ch2, v_sh2, v_wh2, v_ph, v_pl, (v_pr 0), (v_pr 1), (v_pr 2), (v_pr 3), v_la_t, v_la_h, v_la_u, v_la_o, v_la_x, v_ch_s, v_ch_t, v_ch_f, v_ch_p, v_jj, (v_jr 0), (v_jr 1), (v_jr 2), (v_jr 3), v_jh, (v_jq 0), (v_jq 1), (v_jq 2), (v_jq 3), (v_jq 4), (v_jq 5), v_jw, v_jo, v_jb, v_ef, v_ev, (v_eq 0), (v_eq 1), (v_eq 2), (v_eq 3), (v_eq 4), (v_eq 5), (v_eq 6), (v_eq 7), (v_eq 8), (v_eq 9), v_eh, (v_eu 0), (v_eu 1), (v_eu 2), v_er, (v_et 0), (v_et 1), (v_et 2), v_sn, v_sp, v_pa]) x0G := by
  rw [xW_list]
  have q39 := q_row (l := [x0, v_xt, v_xs, v_xq, v_xr, v_xp, v_xl, v_xc, v_xj, v_xe, v_xo, v_fo, v_wa, v_we, v_fo2, v_wa2, v_we2, v_tb, v_n, v_n2, v_cf, v_sf, v_wf, v_cg, v_sg, v_wg, v_ch, v_sh, v_wh, v_cf2, v_sf2, v_wf2, v_cg2, v_sg2, v_wg2, v_ch2, v_sh2, v_wh2, v_ph, v_pl, (v_pr 0), (v_pr 1), (v_pr 2), (v_pr 3), v_la_t, v_la_h, v_la_u, v_la_o, v_la_x, v_ch_s, v_ch_t, v_ch_f, v_ch_p, v_jj, (v_jr 0), (v_jr 1), (v_jr 2), (v_jr 3), v_jh, (v_jq 0), (v_jq 1), (v_jq 2), (v_jq 3), (v_jq 4), (v_jq 5), v_jw, v_jo, v_jb, v_ef, v_ev, (v_eq 0), (v_eq 1), (v_eq 2), (v_eq 3), (v_eq 4), (v_eq 5), (v_eq 6), (v_eq 7), (v_eq 8), (v_eq 9), v_eh, (v_eu 0), (v_eu 1), (v_eu 2), v_er, (v_et 0), (v_et 1), (v_et 2), v_sn, v_sp, v_pa]) (f := v_pr) (n := 4) (base := 40) (fun i hi => by rcases (show i = 0 ∨ i = 1 ∨ i = 2 ∨ i = 3 by omega) with rfl | rfl | rfl | rfl <;> rfl)
  have q53 := q_row (l := [x0, v_xt, v_xs, v_xq, v_xr, v_xp, v_xl, v_xc, v_xj, v_xe, v_xo, v_fo, v_wa, v_we, v_fo2, v_wa2, v_we2, v_tb, v_n, v_n2, v_cf, v_sf, v_wf, v_cg, v_sg, v_wg, v_ch, v_sh, v_wh, v_cf2, v_sf2, v_wf2, v_cg2, v_sg2, v_wg2, v_ch2, v_sh2, v_wh2, v_ph, v_pl, (v_pr 0), (v_pr 1), (v_pr 2), (v_pr 3), v_la_t, v_la_h, v_la_u, v_la_o, v_la_x, v_ch_s, v_ch_t, v_ch_f, v_ch_p, v_jj, (v_jr 0), (v_jr 1), (v_jr 2), (v_jr 3), v_jh, (v_jq 0), (v_jq 1), (v_jq 2), (v_jq 3), (v_jq 4), (v_jq 5), v_jw, v_jo, v_jb, v_ef, v_ev, (v_eq 0), (v_eq 1), (v_eq 2), (v_eq 3), (v_eq 4), (v_eq 5), (v_eq 6), (v_eq 7), (v_eq 8), (v_eq 9), v_eh, (v_eu 0), (v_eu 1), (v_eu 2), v_er, (v_et 0), (v_et 1), (v_et 2), v_sn, v_sp, v_pa]) (f := v_jr) (n := 4) (base := 54) (fun i hi => by rcases (show i = 0 ∨ i = 1 ∨ i = 2 ∨ i = 3 by omega) with rfl | rfl | rfl | rfl <;> rfl)
  have q58 := q_row (l := [x0, v_xt, v_xs, v_xq, v_xr, v_xp, v_xl, v_xc, v_xj, v_xe, v_xo, v_fo, v_wa, v_we, v_fo2, v_wa2, v_we2, v_tb, v_n, v_n2, v_cf, v_sf, v_wf, v_cg, v_sg, v_wg, v_ch, v_sh, v_wh, v_cf2, v_sf2, v_wf2, v_cg2, v_sg2, v_wg2, v_ch2, v_sh2, v_wh2, v_ph, v_pl, (v_pr 0), (v_pr 1), (v_pr 2), (v_pr 3), v_la_t, v_la_h, v_la_u, v_la_o, v_la_x, v_ch_s, v_ch_t, v_ch_f, v_ch_p, v_jj, (v_jr 0), (v_jr 1), (v_jr 2), (v_jr 3), v_jh, (v_jq 0), (v_jq 1), (v_jq 2), (v_jq 3), (v_jq 4), (v_jq 5), v_jw, v_jo, v_jb, v_ef, v_ev, (v_eq 0), (v_eq 1), (v_eq 2), (v_eq 3), (v_eq 4), (v_eq 5), (v_eq 6), (v_eq 7), (v_eq 8), (v_eq 9), v_eh, (v_eu 0), (v_eu 1), (v_eu 2), v_er, (v_et 0), (v_et 1), (v_et 2), v_sn, v_sp, v_pa]) (f := v_jq) (n := 6) (base := 59) (fun i hi => by rcases (show i = 0 ∨ i = 1 ∨ i = 2 ∨ i = 3 ∨ i = 4 ∨ i = 5 by omega) with rfl | rfl | rfl | rfl | rfl | rfl <;> rfl)
  have q69 := q_row (l := [x0, v_xt, v_xs, v_xq, v_xr, v_xp, v_xl, v_xc, v_xj, v_xe, v_xo, v_fo, v_wa, v_we, v_fo2, v_wa2, v_we2, v_tb, v_n, v_n2, v_cf, v_sf, v_wf, v_cg, v_sg, v_wg, v_ch, v_sh, v_wh, v_cf2, v_sf2, v_wf2, v_cg2, v_sg2, v_wg2, v_ch2, v_sh2, v_wh2, v_ph, v_pl, (v_pr 0), (v_pr 1), (v_pr 2), (v_pr 3), v_la_t, v_la_h, v_la_u, v_la_o, v_la_x, v_ch_s, v_ch_t, v_ch_f, v_ch_p, v_jj, (v_jr 0), (v_jr 1), (v_jr 2), (v_jr 3), v_jh, (v_jq 0), (v_jq 1), (v_jq 2), (v_jq 3), (v_jq 4), (v_jq 5), v_jw, v_jo, v_jb, v_ef, v_ev, (v_eq 0), (v_eq 1), (v_eq 2), (v_eq 3), (v_eq 4), (v_eq 5), (v_eq 6), (v_eq 7), (v_eq 8), (v_eq 9), v_eh, (v_eu 0), (v_eu 1), (v_eu 2), v_er, (v_et 0), (v_et 1), (v_et 2), v_sn, v_sp, v_pa]) (f := v_eq) (n := 10) (base := 70) (fun i hi => by rcases (show i = 0 ∨ i = 1 ∨ i = 2 ∨ i = 3 ∨ i = 4 ∨ i = 5 ∨ i = 6 ∨ i = 7 ∨ i = 8 ∨ i = 9 by omega) with rfl | rfl | rfl | rfl | rfl | rfl | rfl | rfl | rfl | rfl <;> rfl)
  have q80 := q_row (l := [x0, v_xt, v_xs, v_xq, v_xr, v_xp, v_xl, v_xc, v_xj, v_xe, v_xo, v_fo, v_wa, v_we, v_fo2, v_wa2, v_we2, v_tb, v_n, v_n2, v_cf, v_sf, v_wf, v_cg, v_sg, v_wg, v_ch, v_sh, v_wh, v_cf2, v_sf2, v_wf2, v_cg2, v_sg2, v_wg2, v_ch2, v_sh2, v_wh2, v_ph, v_pl, (v_pr 0), (v_pr 1), (v_pr 2), (v_pr 3), v_la_t, v_la_h, v_la_u, v_la_o, v_la_x, v_ch_s, v_ch_t, v_ch_f, v_ch_p, v_jj, (v_jr 0), (v_jr 1), (v_jr 2), (v_jr 3), v_jh, (v_jq 0), (v_jq 1), (v_jq 2), (v_jq 3), (v_jq 4), (v_jq 5), v_jw, v_jo, v_jb, v_ef, v_ev, (v_eq 0), (v_eq 1), (v_eq 2), (v_eq 3), (v_eq 4), (v_eq 5), (v_eq 6), (v_eq 7), (v_eq 8), (v_eq 9), v_eh, (v_eu 0), (v_eu 1), (v_eu 2), v_er, (v_et 0), (v_et 1), (v_et 2), v_sn, v_sp, v_pa]) (f := v_eu) (n := 3) (base := 81) (fun i hi => by rcases (show i = 0 ∨ i = 1 ∨ i = 2 by omega) with rfl | rfl | rfl <;> rfl)
  have q84 := q_row (l := [x0, v_xt, v_xs, v_xq, v_xr, v_xp, v_xl, v_xc, v_xj, v_xe, v_xo, v_fo, v_wa, v_we, v_fo2, v_wa2, v_we2, v_tb, v_n, v_n2, v_cf, v_sf, v_wf, v_cg, v_sg, v_wg, v_ch, v_sh, v_wh, v_cf2, v_sf2, v_wf2, v_cg2, v_sg2, v_wg2, v_ch2, v_sh2, v_wh2, v_ph, v_pl, (v_pr 0), (v_pr 1), (v_pr 2), (v_pr 3), v_la_t, v_la_h, v_la_u, v_la_o, v_la_x, v_ch_s, v_ch_t, v_ch_f, v_ch_p, v_jj, (v_jr 0), (v_jr 1), (v_jr 2), (v_jr 3), v_jh, (v_jq 0), (v_jq 1), (v_jq 2), (v_jq 3), (v_jq 4), (v_jq 5), v_jw, v_jo, v_jb, v_ef, v_ev, (v_eq 0), (v_eq 1), (v_eq 2), (v_eq 3), (v_eq 4), (v_eq 5), (v_eq 6), (v_eq 7), (v_eq 8), (v_eq 9), v_eh, (v_eu 0), (v_eu 1), (v_eu 2), v_er, (v_et 0), (v_et 1), (v_et 2), v_sn, v_sp, v_pa]) (f := v_et) (n := 3) (base := 85) (fun i hi => by rcases (show i = 0 ∨ i = 1 ∨ i = 2 by omega) with rfl | rfl | rfl <;> rfl)
  exact c2_ rfl (c2_ rfl (c2_ rfl (c2_ rfl (c2_ rfl (c2_ rfl (c2_ rfl (c2_ rfl (c2_ rfl (c2_ rfl (c2_ rfl (c2_ rfl (c2_ rfl (c2_ rfl (c2_ rfl (c2_ rfl (c2_ rfl (c2_ rfl (c2_ rfl (c2_ rfl (c2_ rfl (c2_ rfl (c2_ rfl (c2_ rfl (c2_ rfl (c2_ rfl (c2_ rfl (c2_ rfl (c2_ rfl (c2_ rfl (c2_ rfl (c2_ rfl (c2_ rfl (c2_ rfl (c2_ rfl (c2_ rfl (c2_ rfl (c2_ rfl (c2_ rfl (c2_ (show ((v_pl, .inl (cII, 4, .inr (.inr (.inr (.inr (fun i => if i < 4 then some (v_pr i) else none)))))) : Nat × va_E) = (v_pl, .inl (cII, 4, .inr (.inr (.inr (.inr (fun i => if i < 4 then some (xA [x0, v_xt, v_xs, v_xq, v_xr, v_xp, v_xl, v_xc, v_xj, v_xe, v_xo, v_fo, v_wa, v_we, v_fo2, v_wa2, v_we2, v_tb, v_n, v_n2, v_cf, v_sf, v_wf, v_cg, v_sg, v_wg, v_ch, v_sh, v_wh, v_cf2, v_sf2, v_wf2, v_cg2, v_sg2, v_wg2, v_ch2, v_sh2, v_wh2, v_ph, v_pl, (v_pr 0), (v_pr 1), (v_pr 2), (v_pr 3), v_la_t, v_la_h, v_la_u, v_la_o, v_la_x, v_ch_s, v_ch_t, v_ch_f, v_ch_p, v_jj, (v_jr 0), (v_jr 1), (v_jr 2), (v_jr 3), v_jh, (v_jq 0), (v_jq 1), (v_jq 2), (v_jq 3), (v_jq 4), (v_jq 5), v_jw, v_jo, v_jb, v_ef, v_ev, (v_eq 0), (v_eq 1), (v_eq 2), (v_eq 3), (v_eq 4), (v_eq 5), (v_eq 6), (v_eq 7), (v_eq 8), (v_eq 9), v_eh, (v_eu 0), (v_eu 1), (v_eu 2), v_er, (v_et 0), (v_et 1), (v_et 2), v_sn, v_sp, v_pa] (40 + i)) else none)))))) by rw [q39]) (c2_ rfl (c2_ rfl (c2_ rfl (c2_ rfl (c2_ rfl (c2_ rfl (c2_ rfl (c2_ rfl (c2_ rfl (c2_ rfl (c2_ rfl (c2_ rfl (c2_ rfl (c2_ (show ((v_jj, .inl (cII, 4, .inr (.inr (.inr (.inr (fun i => if i < 4 then some (v_jr i) else none)))))) : Nat × va_E) = (v_jj, .inl (cII, 4, .inr (.inr (.inr (.inr (fun i => if i < 4 then some (xA [x0, v_xt, v_xs, v_xq, v_xr, v_xp, v_xl, v_xc, v_xj, v_xe, v_xo, v_fo, v_wa, v_we, v_fo2, v_wa2, v_we2, v_tb, v_n, v_n2, v_cf, v_sf, v_wf, v_cg, v_sg, v_wg, v_ch, v_sh, v_wh, v_cf2, v_sf2, v_wf2, v_cg2, v_sg2, v_wg2, v_ch2, v_sh2, v_wh2, v_ph, v_pl, (v_pr 0), (v_pr 1), (v_pr 2), (v_pr 3), v_la_t, v_la_h, v_la_u, v_la_o, v_la_x, v_ch_s, v_ch_t, v_ch_f, v_ch_p, v_jj, (v_jr 0), (v_jr 1), (v_jr 2), (v_jr 3), v_jh, (v_jq 0), (v_jq 1), (v_jq 2), (v_jq 3), (v_jq 4), (v_jq 5), v_jw, v_jo, v_jb, v_ef, v_ev, (v_eq 0), (v_eq 1), (v_eq 2), (v_eq 3), (v_eq 4), (v_eq 5), (v_eq 6), (v_eq 7), (v_eq 8), (v_eq 9), v_eh, (v_eu 0), (v_eu 1), (v_eu 2), v_er, (v_et 0), (v_et 1), (v_et 2), v_sn, v_sp, v_pa] (54 + i)) else none)))))) by rw [q53]) (c2_ rfl (c2_ rfl (c2_ rfl (c2_ rfl (c2_ (show ((v_jh, .inl (cII, 6, .inr (.inr (.inr (.inr (fun i => if i < 6 then some (v_jq i) else none)))))) : Nat × va_E) = (v_jh, .inl (cII, 6, .inr (.inr (.inr (.inr (fun i => if i < 6 then some (xA [x0, v_xt, v_xs, v_xq, v_xr, v_xp, v_xl, v_xc, v_xj, v_xe, v_xo, v_fo, v_wa, v_we, v_fo2, v_wa2, v_we2, v_tb, v_n, v_n2, v_cf, v_sf, v_wf, v_cg, v_sg, v_wg, v_ch, v_sh, v_wh, v_cf2, v_sf2, v_wf2, v_cg2, v_sg2, v_wg2, v_ch2, v_sh2, v_wh2, v_ph, v_pl, (v_pr 0), (v_pr 1), (v_pr 2), (v_pr 3), v_la_t, v_la_h, v_la_u, v_la_o, v_la_x, v_ch_s, v_ch_t, v_ch_f, v_ch_p, v_jj, (v_jr 0), (v_jr 1), (v_jr 2), (v_jr 3), v_jh, (v_jq 0), (v_jq 1), (v_jq 2), (v_jq 3), (v_jq 4), (v_jq 5), v_jw, v_jo, v_jb, v_ef, v_ev, (v_eq 0), (v_eq 1), (v_eq 2), (v_eq 3), (v_eq 4), (v_eq 5), (v_eq 6), (v_eq 7), (v_eq 8), (v_eq 9), v_eh, (v_eu 0), (v_eu 1), (v_eu 2), v_er, (v_et 0), (v_et 1), (v_et 2), v_sn, v_sp, v_pa] (59 + i)) else none)))))) by rw [q58]) (c2_ rfl (c2_ rfl (c2_ rfl (c2_ rfl (c2_ rfl (c2_ rfl (c2_ rfl (c2_ rfl (c2_ rfl (c2_ rfl (c2_ (show ((v_ev, .inl (cII, 10, .inr (.inr (.inr (.inr (fun i => if i < 10 then some (v_eq i) else none)))))) : Nat × va_E) = (v_ev, .inl (cII, 10, .inr (.inr (.inr (.inr (fun i => if i < 10 then some (xA [x0, v_xt, v_xs, v_xq, v_xr, v_xp, v_xl, v_xc, v_xj, v_xe, v_xo, v_fo, v_wa, v_we, v_fo2, v_wa2, v_we2, v_tb, v_n, v_n2, v_cf, v_sf, v_wf, v_cg, v_sg, v_wg, v_ch, v_sh, v_wh, v_cf2, v_sf2, v_wf2, v_cg2, v_sg2, v_wg2, v_ch2, v_sh2, v_wh2, v_ph, v_pl, (v_pr 0), (v_pr 1), (v_pr 2), (v_pr 3), v_la_t, v_la_h, v_la_u, v_la_o, v_la_x, v_ch_s, v_ch_t, v_ch_f, v_ch_p, v_jj, (v_jr 0), (v_jr 1), (v_jr 2), (v_jr 3), v_jh, (v_jq 0), (v_jq 1), (v_jq 2), (v_jq 3), (v_jq 4), (v_jq 5), v_jw, v_jo, v_jb, v_ef, v_ev, (v_eq 0), (v_eq 1), (v_eq 2), (v_eq 3), (v_eq 4), (v_eq 5), (v_eq 6), (v_eq 7), (v_eq 8), (v_eq 9), v_eh, (v_eu 0), (v_eu 1), (v_eu 2), v_er, (v_et 0), (v_et 1), (v_et 2), v_sn, v_sp, v_pa] (70 + i)) else none)))))) by rw [q69]) (c2_ rfl (c2_ rfl (c2_ rfl (c2_ rfl (c2_ rfl (c2_ rfl (c2_ rfl (c2_ rfl (c2_ rfl (c2_ rfl (c2_ (show ((v_eh, .inl (cII, 3, .inr (.inr (.inr (.inr (fun i => if i < 3 then some (v_eu i) else none)))))) : Nat × va_E) = (v_eh, .inl (cII, 3, .inr (.inr (.inr (.inr (fun i => if i < 3 then some (xA [x0, v_xt, v_xs, v_xq, v_xr, v_xp, v_xl, v_xc, v_xj, v_xe, v_xo, v_fo, v_wa, v_we, v_fo2, v_wa2, v_we2, v_tb, v_n, v_n2, v_cf, v_sf, v_wf, v_cg, v_sg, v_wg, v_ch, v_sh, v_wh, v_cf2, v_sf2, v_wf2, v_cg2, v_sg2, v_wg2, v_ch2, v_sh2, v_wh2, v_ph, v_pl, (v_pr 0), (v_pr 1), (v_pr 2), (v_pr 3), v_la_t, v_la_h, v_la_u, v_la_o, v_la_x, v_ch_s, v_ch_t, v_ch_f, v_ch_p, v_jj, (v_jr 0), (v_jr 1), (v_jr 2), (v_jr 3), v_jh, (v_jq 0), (v_jq 1), (v_jq 2), (v_jq 3), (v_jq 4), (v_jq 5), v_jw, v_jo, v_jb, v_ef, v_ev, (v_eq 0), (v_eq 1), (v_eq 2), (v_eq 3), (v_eq 4), (v_eq 5), (v_eq 6), (v_eq 7), (v_eq 8), (v_eq 9), v_eh, (v_eu 0), (v_eu 1), (v_eu 2), v_er, (v_et 0), (v_et 1), (v_et 2), v_sn, v_sp, v_pa] (81 + i)) else none)))))) by rw [q80]) (c2_ rfl (c2_ rfl (c2_ rfl (c2_ (show ((v_er, .inl (cII, 3, .inr (.inr (.inr (.inr (fun i => if i < 3 then some (v_et i) else none)))))) : Nat × va_E) = (v_er, .inl (cII, 3, .inr (.inr (.inr (.inr (fun i => if i < 3 then some (xA [x0, v_xt, v_xs, v_xq, v_xr, v_xp, v_xl, v_xc, v_xj, v_xe, v_xo, v_fo, v_wa, v_we, v_fo2, v_wa2, v_we2, v_tb, v_n, v_n2, v_cf, v_sf, v_wf, v_cg, v_sg, v_wg, v_ch, v_sh, v_wh, v_cf2, v_sf2, v_wf2, v_cg2, v_sg2, v_wg2, v_ch2, v_sh2, v_wh2, v_ph, v_pl, (v_pr 0), (v_pr 1), (v_pr 2), (v_pr 3), v_la_t, v_la_h, v_la_u, v_la_o, v_la_x, v_ch_s, v_ch_t, v_ch_f, v_ch_p, v_jj, (v_jr 0), (v_jr 1), (v_jr 2), (v_jr 3), v_jh, (v_jq 0), (v_jq 1), (v_jq 2), (v_jq 3), (v_jq 4), (v_jq 5), v_jw, v_jo, v_jb, v_ef, v_ev, (v_eq 0), (v_eq 1), (v_eq 2), (v_eq 3), (v_eq 4), (v_eq 5), (v_eq 6), (v_eq 7), (v_eq 8), (v_eq 9), v_eh, (v_eu 0), (v_eu 1), (v_eu 2), v_er, (v_et 0), (v_et 1), (v_et 2), v_sn, v_sp, v_pa] (85 + i)) else none)))))) by rw [q84]) (c2_ rfl (c2_ rfl (c2_ rfl (c2_ rfl (c2_ rfl (c2_ rfl (rfl)))))))))))))))))))))))))))))))))))))))))))))))))))))))))))))))))))))))))))))))))))))))))))
set_option maxRecDepth 20000 in
set_option maxHeartbeats 4000000 in
theorem y_world (m0 : Nat) (m_stop : Nat) (m_tape : Nat) (m_rule : Nat) (m_readRule : Nat) (m_teeth : Nat) (m_readTeeth : Nat) (m_sway : Nat) (m_readSway : Nat) (m_isTold : Nat) (m_markKind : Nat) (m_markValue : Nat) (m_marks : Nat) (m_pile : Nat) (m_height : Nat) (m_leftPass : Nat) (m_leftTurn : Nat) (m_leftTooth : Nat) (m_leftX : Nat) (m_kept : Nat) (m_keptWear : Nat) (m_now : Nat) (m_passed : Nat) (m_planTime : Nat) (m_planMany : Nat) (m_planned : Nat) (m_isQuiet : Nat) (m_keptTeeth : Nat) (m_jobRing : Nat) (m_jobSpeed : Nat) (m_jobFeed : Nat) (m_jobTurns : Nat) (m_orderRow : Nat) (m_bestRow : Nat) (m_orderTold : Nat) (m_offerRing : Nat) (m_offerSpeed : Nat) (m_offerFeed : Nat) (m_offerTurns : Nat) (m_heardOffer : Nat) (m_heardVerdict : Nat) (m_heardAt : Nat) (m_rightOf : Nat) (m_rightVerdict : Nat) (m_rightAt : Nat) (m_verdictOf : Nat) (m_sound : Nat) (m_readSound : Nat) (cI cII cB cZ : ClassId) : ([(m0, .inr (12, [.ref m_stop, .ref m_tape, .int 0, .int 0, .int 0, .int 0, .int 0, .int 0, .int 0, .int (-1), .ref m_rule, .ref m_readRule, .ref m_teeth, .ref m_readTeeth, .ref m_sway, .ref m_readSway, .ref m_isTold, .ref m_markKind, .ref m_markValue, .ref m_marks, .int 5, .int 0, .ref m_pile, .ref m_height, .ref m_leftPass, .ref m_leftTurn, .ref m_leftTooth, .ref m_leftX, .int 0, .int 0, .ref m_kept, .ref m_keptWear, .int 0, .ref m_now, .ref m_passed, .int 0, .int 0, .int 0, .ref m_planTime, .ref m_planMany, .ref m_planned, .ref m_isQuiet, .int 0, .int 0, .ref m_keptTeeth, .int 0, .int 0, .ref m_jobRing, .ref m_jobSpeed, .ref m_jobFeed, .ref m_jobTurns, .ref m_orderRow, .ref m_bestRow, .int 0, .ref m_orderTold, .int 0, .int 0, .int 0, .int 0, .ref m_offerRing, .ref m_offerSpeed, .ref m_offerFeed, .ref m_offerTurns, .ref m_heardOffer, .ref m_heardVerdict, .ref m_heardAt, .ref m_rightOf, .ref m_rightVerdict, .ref m_rightAt, .ref m_verdictOf, .ref m_sound, .ref m_readSound, .int 0])), (m_stop, .inr (11, [.null, .null, .null, .null, .null, .int 0])), (m_tape, .inl (cB, 1000, .inl (fun _ => 0))), (m_rule, .inl (cI, 12, .inl gz_untold)), (m_readRule, .inl (cI, 12, .inl gz_untold)), (m_teeth, .inl (cI, 4, .inl (upd (fun _ => 0) 0 0))), (m_readTeeth, .inl (cI, 4, .inl (upd (fun _ => 0) 0 0))), (m_sway, .inl (cI, 6, .inl (upd (fun _ => 0) 0 0))), (m_readSway, .inl (cI, 6, .inl (upd (fun _ => 0) 0 0))), (m_isTold, .inl (cZ, 13, .inl (fun _ => 0))), (m_markKind, .inl (cI, 480, .inl (upd (upd (upd (upd (upd (upd (fun _ => 0) 240 1) 320 0) 400 0) 0 1) 80 0) 160 0))), (m_markValue, .inl (cI, 480, .inl (upd (upd (upd (upd (upd (upd (fun _ => 0) 240 0) 320 0) 400 0) 0 0) 80 0) 160 0))), (m_marks, .inl (cI, 6, .inl (upd (upd (upd (upd (upd (upd (upd (upd (upd (fun _ => 0) 3 0) 4 0) 5 0) 3 1) 4 1) 5 1) 0 1) 1 1) 2 1))), (m_pile, .inl (cI, 80, .inl (fun _ => 0))), (m_height, .inl (cI, 96, .inl (fun _ => 1000))), (m_leftPass, .inl (cI, 96, .inl (fun _ => (-1)))), (m_leftTurn, .inl (cI, 96, .inl (fun _ => 0))), (m_leftTooth, .inl (cI, 96, .inl (fun _ => 0))), (m_leftX, .inl (cI, 96, .inl (fun _ => 0))), (m_kept, .inl (cI, 672, .inl (fun _ => 0))), (m_keptWear, .inl (cI, 7, .inl (fun _ => 0))), (m_now, .inl (cI, 7, .inl (fun _ => 0))), (m_passed, .inl (cI, 7, .inl (fun _ => 0))), (m_planTime, .inl (cI, 401, .inl (fun _ => 0))), (m_planMany, .inl (cI, 401, .inl (fun _ => 0))), (m_planned, .inl (cI, 400, .inl (fun _ => 0))), (m_isQuiet, .inl (cZ, 210, .inl (fun _ => 0))), (m_keptTeeth, .inl (cI, 4, .inl (fun _ => 0))), (m_jobRing, .inl (cI, 5, .inl (fun _ => 0))), (m_jobSpeed, .inl (cI, 5, .inl (fun _ => 0))), (m_jobFeed, .inl (cI, 5, .inl (fun _ => 0))), (m_jobTurns, .inl (cI, 5, .inl (fun _ => 0))), (m_orderRow, .inl (cI, 5, .inl (fun _ => 0))), (m_bestRow, .inl (cI, 5, .inl (fun _ => 0))), (m_orderTold, .inl (cI, 5, .inl (fun _ => 0))), (m_offerRing, .inl (cI, 10, .inl (fun _ => 0))), (m_offerSpeed, .inl (cI, 10, .inl (fun _ => 0))), (m_offerFeed, .inl (cI, 10, .inl (fun _ => 0))), (m_offerTurns, .inl (cI, 10, .inl (fun _ => 0))), (m_heardOffer, .inl (cI, 30, .inl (fun _ => 0))), (m_heardVerdict, .inl (cI, 30, .inl (fun _ => 0))), (m_heardAt, .inl (cI, 30, .inl (fun _ => 0))), (m_rightOf, .inl (cI, 20, .inl (fun _ => 0))), (m_rightVerdict, .inl (cI, 20, .inl (fun _ => 0))), (m_rightAt, .inl (cI, 20, .inl (fun _ => 0))), (m_verdictOf, .inl (cI, 160, .inl (fun _ => 0))), (m_sound, .inl (cI, 150, .inl (fun _ => 0))), (m_readSound, .inl (cI, 150, .inl (fun _ => 0)))] : va_W) = yW (kK cI cII cB cZ) (xA [m0, m_stop, m_tape, m_rule, m_readRule, m_teeth, m_readTeeth, m_sway, m_readSway, m_isTold, m_markKind, m_markValue, m_marks, m_pile, m_height, m_leftPass, m_leftTurn, m_leftTooth, m_leftX, m_kept, m_keptWear, m_now, m_passed, m_planTime, m_planMany, m_planned, m_isQuiet, m_keptTeeth, m_jobRing, m_jobSpeed, m_jobFeed, m_jobTurns, m_orderRow, m_bestRow, m_orderTold, m_offerRing, m_offerSpeed, m_offerFeed, m_offerTurns, m_heardOffer, m_heardVerdict, m_heardAt, m_rightOf, m_rightVerdict, m_rightAt, m_verdictOf, m_sound, m_readSound]) y0G := by
  rw [yW_list]
  exact c2_ rfl (c2_ rfl (c2_ rfl (c2_ rfl (c2_ rfl (c2_ rfl (c2_ rfl (c2_ rfl (c2_ rfl (c2_ rfl (c2_ rfl (c2_ rfl (c2_ rfl (c2_ rfl (c2_ rfl (c2_ rfl (c2_ rfl (c2_ rfl (c2_ rfl (c2_ rfl (c2_ rfl (c2_ rfl (c2_ rfl (c2_ rfl (c2_ rfl (c2_ rfl (c2_ rfl (c2_ rfl (c2_ rfl (c2_ rfl (c2_ rfl (c2_ rfl (c2_ rfl (c2_ rfl (c2_ rfl (c2_ rfl (c2_ rfl (c2_ rfl (c2_ rfl (c2_ rfl (c2_ rfl (c2_ rfl (c2_ rfl (c2_ rfl (c2_ rfl (c2_ rfl (c2_ rfl (c2_ rfl (rfl))))))))))))))))))))))))))))))))))))))))))))))))
/-- numbers and sums of the shop that stands, on both sides -/
def lNu (G G2 : gS) : Prop := yNm (G 18) G2 ∧ tkr (G 20) (G 11 1).toInt.toNat = mL 0 G2 ∧ tkr (G 23) (G 12 1).toInt.toNat = mL 1 G2 ∧ tkr (G 26) (G 13 1).toInt.toNat = mL 2 G2
def xCL : List Nat := [1800, 2000, 2300, 2600, 1102, 1202, 1302]
def yCL : List Nat := [300, 500, 700, 1000, 1100, 1200]
theorem lNu.unx {G G' G2 : gS} {L : List Nat} (h : lNu G G2) (hU : gu_un xcd L G G') (hL : xNo L xCL = false) : lNu G' G2 := by
  have hm : ∀ n : Nat, n ∈ xCL → n ∉ L := by
    intro n h1 h2
    have h3 : xNo L xCL = true := List.any_eq_true.mpr ⟨n, h1, List.contains_iff_mem.mpr h2⟩
    rw [hL] at h3
    cases h3
  unfold lNu at *
  rw [show G' 18 = G 18 from funext fun k => hU 18 k (hm 1800 (by decide)), show G' 20 = G 20 from funext fun k => hU 20 k (hm 2000 (by decide)), show G' 23 = G 23 from funext fun k => hU 23 k (hm 2300 (by decide)), show G' 26 = G 26 from funext fun k => hU 26 k (hm 2600 (by decide)), hU 11 1 (hm 1102 (by decide)), hU 12 1 (hm 1202 (by decide)), hU 13 1 (hm 1302 (by decide))]
  exact h
theorem mL_yc {w : Int} {G G' : gS} {L : List Nat} (hU : gu_un ycd L G G') (hL : yNo L [1000, 1100, 1200] = false) : mL w G' = mL w G := by
  unfold mL
  rw [show G' 10 = G 10 from funext fun k => hU 10 k (yNo.at hL (n := 1000) (by decide)), show G' 11 = G 11 from funext fun k => hU 11 k (yNo.at hL (n := 1100) (by decide)), show G' 12 = G 12 from funext fun k => hU 12 k (yNo.at hL (n := 1200) (by decide))]
theorem lNu.uny {G G2 G2' : gS} {L : List Nat} (h : lNu G G2) (hU : gu_un ycd L G2 G2') (hL : yNo L yCL = false) : lNu G G2' := by
  have hL' : yNo L [1000, 1100, 1200] = false := by
    apply Bool.eq_false_iff.mpr
    intro h3
    obtain ⟨n, h4, h5⟩ := List.any_eq_true.mp h3
    exact yNo.at hL (n := n) (by simp only [List.mem_cons, List.not_mem_nil, or_false] at h4; rcases h4 with rfl | rfl | rfl <;> decide) (List.contains_iff_mem.mp h5)
  unfold lNu yNm at *
  rw [mL_yc hU hL', mL_yc hU hL', mL_yc hU hL', show G2' 3 = G2 3 from funext fun k => hU 3 k (yNo.at hL (n := 300) (by decide)), show G2' 5 = G2 5 from funext fun k => hU 5 k (yNo.at hL (n := 500) (by decide)), show G2' 7 = G2 7 from funext fun k => hU 7 k (yNo.at hL (n := 700) (by decide))]
  exact h
theorem lNu.rs {G G2 G2' : gS} {L : List Nat} (hI : yI G2) (h : lNu G G2) (hU : gu_un ycd L G2 G2') (hL : yNo L [700, 1000, 1100, 1200] = false) (hr : (∀ q : Nat, q < 12 → G2' 3 q = G2 3 q) ∧ ∀ q : Nat, q < 4 → G2' 5 q = G2 5 q) : lNu G G2' := by
  have hL' : yNo L [1000, 1100, 1200] = false := by
    apply Bool.eq_false_iff.mpr
    intro h3
    obtain ⟨n, h4, h5⟩ := List.any_eq_true.mp h3
    exact yNo.at hL (n := n) (by simp only [List.mem_cons, List.not_mem_nil, or_false] at h4; rcases h4 with rfl | rfl | rfl <;> decide) (List.contains_iff_mem.mp h5)
  obtain ⟨⟨h1, h2, h3⟩, h4⟩ := h
  have b10 : (1 : Int) ≤ (G2 3 10).toInt ∧ (G2 3 10).toInt ≤ 4 := hI 3 10
  have e10 : G2' 3 10 = G2 3 10 := hr.1 10 (by decide)
  have e11 : G2' 3 11 = G2 3 11 := hr.1 11 (by decide)
  refine ⟨⟨fun q hq => by rw [hr.1 q hq]; exact h1 q hq, fun q hq => ?_, fun q hq => ?_⟩, ?_⟩
  · rw [e10] at hq
    rw [hr.2 q (by omega)]
    exact h2 q hq
  · rw [e11] at hq
    rw [show G2' 7 = G2 7 from funext fun k => hU 7 k (yNo.at hL (n := 700) (by decide))]
    exact h3 q hq
  · rw [mL_yc hU hL', mL_yc hU hL', mL_yc hU hL']
    exact h4
/-- what shop tells, the class -/
def xSH (G G' : gS) (r : Int) : Prop := ∃ (ts : List hTk) (X : gS), tL (G 17) (G 1 1).toInt 0 ts ∧ xIn X ∧ ((r = -1 ∧ (G' 0 12).toInt ≠ 0 ∧ xH ts X = hBad (G' 0 12).toInt (G' 0 13).toInt ∧ (G' 18 = G 18) ∧ (G' 20 = G 20 ∧ (G' 11 1).toInt = (G 11 1).toInt) ∧ (G' 23 = G 23 ∧ (G' 12 1).toInt = (G 12 1).toInt) ∧ (G' 26 = G 26 ∧ (G' 13 1).toInt = (G 13 1).toInt)) ∨ ((G' 0 12).toInt = 0 ∧ (G' 0 13).toInt = -1 ∧ ∃ nu : Nat → Int32, xH ts X = (0, -1, r, nu, tkr (G' 20) (G' 11 1).toInt.toNat, tkr (G' 23) (G' 12 1).toInt.toNat, tkr (G' 26) (G' 13 1).toInt.toNat) ∧ ∀ q : Nat, q < 36 → G' 18 q = nu q))
/-- what shop tells, the reference -/
def ySH (G G' : gS) (r : Int) : Prop := ∀ ts : List hTk, tL (G 2) (G 0 2).toInt 0 ts → ∀ (cnt lat : Int) (nu : Nat → Int32) (sg : Nat → sSt), hSt nu sg → ((r = -1 ∧ (G' 0 8).toInt ≠ 0 ∧ hO ts (-1) cnt lat 0 (fun _ => 0) nu sg = hBad (G' 0 8).toInt (G' 0 9).toInt ∧ G' 3 = G 3 ∧ G' 5 = G 5 ∧ G' 7 = G 7 ∧ (∀ w : Int, 0 ≤ w → w ≤ 2 → mL w G' = mL w G)) ∨ ((G' 0 8).toInt = 0 ∧ (G' 0 9).toInt = -1 ∧ ∃ nu' : Nat → Int32, hO ts (-1) cnt lat 0 (fun _ => 0) nu sg = (0, -1, r, nu', mL 0 G', mL 1 G', mL 2 G') ∧ yNm nu' G'))
theorem hBad_eq {f pl f' pl' : Int} (h : hBad f pl = hBad f' pl') : f = f' ∧ pl = pl' := ⟨congrArg (fun q : hRes => q.1) h, congrArg (fun q : hRes => q.2.1) h⟩
theorem shp_eq {G G' G2 G2' : gS} {r r2 : Int} (hn : (G 1 1).toInt = (G2 0 2).toInt) (hb : ∀ i : Nat, (i : Int) < (G 1 1).toInt → G2 2 i = G 17 i) (h0 : 0 ≤ (G 1 1).toInt) (hI : yI G2') (hx : xSH G G' r) (hy : ySH G2 G2' r2) : r = r2 ∧ (G' 0 12).toInt = (G2' 0 8).toInt ∧ (G' 0 13).toInt = (G2' 0 9).toInt ∧ (lNu G G2 → lNu G' G2') := by
  obtain ⟨ts, X, h1, h2, h3⟩ := hx
  have ht : tL (G2 2) (G2 0 2).toInt 0 ts := by
    obtain ⟨t9, h9⟩ := tL_ex (b := G2 2) (n := (G2 0 2).toInt) (m := (G2 0 2).toInt.toNat) (p := 0) (by omega) (by omega)
    rw [← hn] at h9
    have e := tL.uniq hb (Int.le_refl 0) h0 h1 h9
    rw [e, ← hn]
    exact h9
  obtain ⟨a1, a2, a3, a4, a5, a6, a7⟩ := h2
  have hs : hSt (X 19) (xSg X) := ⟨a4, a5, a6, a7⟩
  have g := hy ts ht (X 4 5).toInt (X 4 6).toInt (X 19) (xSg X) hs
  have e : xH ts X = hO ts (-1) (X 4 5).toInt (X 4 6).toInt 0 (fun _ => 0) (X 19) (xSg X) := by
    unfold xH
    rw [a1, a2, a3, xTd_0]
  rw [← e] at g
  rcases h3 with ⟨b1, b2, b3, b4, b5, b6, b7⟩ | ⟨b1, b2, nu, b3, b4⟩
  · rcases g with ⟨c1, c2, c3, c4, c5, c6, c7⟩ | ⟨c1, c2, nu', c3, c4⟩
    · obtain ⟨i1, i2⟩ := hBad_eq (b3.symm.trans c3)
      refine ⟨by omega, i1, i2, fun h => ?_⟩
      unfold lNu yNm at *
      rw [b4, b5.1, b5.2, b6.1, b6.2, b7.1, b7.2, c4, c5, c6, c7 0 (by decide) (by decide), c7 1 (by decide) (by decide), c7 2 (by decide) (by decide)]
      exact h
    · exact absurd (show (G' 0 12).toInt = 0 from congrArg (fun q : hRes => q.1) (b3.symm.trans c3)) b2
  · rcases g with ⟨c1, c2, c3, c4, c5, c6, c7⟩ | ⟨c1, c2, nu', c3, c4⟩
    · exact absurd (show (G2' 0 8).toInt = 0 from (congrArg (fun q : hRes => q.1) (b3.symm.trans c3)).symm) c2
    · have e9 := b3.symm.trans c3
      have i3 : r = r2 := congrArg (fun q : hRes => q.2.2.1) e9
      have i4 : nu = nu' := congrArg (fun q : hRes => q.2.2.2.1) e9
      have i5 : tkr (G' 20) (G' 11 1).toInt.toNat = mL 0 G2' := congrArg (fun q : hRes => q.2.2.2.2.1) e9
      have i6 : tkr (G' 23) (G' 12 1).toInt.toNat = mL 1 G2' := congrArg (fun q : hRes => q.2.2.2.2.2.1) e9
      have i7 : tkr (G' 26) (G' 13 1).toInt.toNat = mL 2 G2' := congrArg (fun q : hRes => q.2.2.2.2.2.2) e9
      obtain ⟨d1, d2, d3⟩ := c4
      have b10 : (1 : Int) ≤ (G2' 3 10).toInt ∧ (G2' 3 10).toInt ≤ 4 := hI 3 10
      have b11 : (1 : Int) ≤ (G2' 3 11).toInt ∧ (G2' 3 11).toInt ≤ 6 := hI 3 11
      refine ⟨i3, by omega, by omega, fun _ => ⟨⟨fun q hq => ?_, fun q hq => ?_, fun q hq => ?_⟩, i5, i6, i7⟩⟩
      · rw [b4 q (by omega), i4]
        exact d1 q hq
      · rw [b4 (20 + q) (by omega), i4]
        exact d2 q hq
      · rw [b4 (30 + q) (by omega), i4]
        exact d3 q hq
theorem tld_eq {G G2 : gS} {s r r2 : Int} (hI : yI G2) (h : yNm (G 18) G2) (hx : (0 ≤ s ∧ s ≤ 11 ∧ r = (G 18 s.toNat).toInt) ∨ (20 ≤ s ∧ s < 20 + (G 18 10).toInt ∧ s < 24 ∧ r = (G 18 s.toNat).toInt) ∨ (30 ≤ s ∧ s < 30 + (G 18 11).toInt ∧ s < 36 ∧ r = (G 18 s.toNat).toInt) ∨ (r = -1 ∧ (s < 0 ∨ 11 < s) ∧ (s < 20 ∨ 20 + (G 18 10).toInt ≤ s ∨ 24 ≤ s) ∧ (s < 30 ∨ 30 + (G 18 11).toInt ≤ s ∨ 36 ≤ s))) (hy : (0 ≤ s ∧ s ≤ 11 ∧ r2 = (G2 3 s.toNat).toInt) ∨ (20 ≤ s ∧ s ≤ 19 + (G2 3 10).toInt ∧ r2 = (G2 5 (s - 20).toNat).toInt) ∨ (30 ≤ s ∧ s ≤ 29 + (G2 3 11).toInt ∧ r2 = (G2 7 (s - 30).toNat).toInt) ∨ (r2 = -1 ∧ (s < 0 ∨ 11 < s) ∧ (s < 20 ∨ 19 + (G2 3 10).toInt < s) ∧ (s < 30 ∨ 29 + (G2 3 11).toInt < s))) : r = r2 := by
  obtain ⟨h1, h2, h3⟩ := h
  have e10 : (G 18 10).toInt = (G2 3 10).toInt := congrArg Int32.toInt (h1 10 (by decide))
  have e11 : (G 18 11).toInt = (G2 3 11).toInt := congrArg Int32.toInt (h1 11 (by decide))
  have b10 : (1 : Int) ≤ (G2 3 10).toInt ∧ (G2 3 10).toInt ≤ 4 := hI 3 10
  have b11 : (1 : Int) ≤ (G2 3 11).toInt ∧ (G2 3 11).toInt ≤ 6 := hI 3 11
  rcases hx with ⟨a1, a2, a3⟩ | ⟨a1, a2, a3, a4⟩ | ⟨a1, a2, a3, a4⟩ | ⟨a1, a2, a3, a4⟩
  · have e := congrArg Int32.toInt (h1 s.toNat (by omega))
    rcases hy with b | b | b | b <;> omega
  · have e := congrArg Int32.toInt (h2 (s - 20).toNat (by omega))
    rw [show 20 + (s - 20).toNat = s.toNat by omega] at e
    rcases hy with b | b | b | b <;> omega
  · have e := congrArg Int32.toInt (h3 (s - 30).toNat (by omega))
    rw [show 30 + (s - 30).toNat = s.toNat by omega] at e
    rcases hy with b | b | b | b <;> omega
  · rcases hy with b | b | b | b <;> omega
/-- the codes of the three sums that stand are good -/
def lG (G : gS) : Prop := gcOK (tkr (G 20) ((G 11 1).toInt).toNat) ∧ gcOK (tkr (G 23) ((G 12 1).toInt).toNat) ∧ gcOK (tkr (G 26) ((G 13 1).toInt).toNat)
theorem lG.un {G G' : gS} {L : List Nat} (h : lG G) (hU : gu_un xcd L G G') (hL : xNo L xCL = false) : lG G' := by
  have hm : ∀ n : Nat, n ∈ xCL → n ∉ L := by
    intro n h1 h2
    have h3 : xNo L xCL = true := List.any_eq_true.mpr ⟨n, h1, List.contains_iff_mem.mpr h2⟩
    rw [hL] at h3
    cases h3
  unfold lG at *
  rw [show G' 20 = G 20 from funext fun k => hU 20 k (hm 2000 (by decide)), show G' 23 = G 23 from funext fun k => hU 23 k (hm 2300 (by decide)), show G' 26 = G 26 from funext fun k => hU 26 k (hm 2600 (by decide)), hU 11 1 (hm 1102 (by decide)), hU 12 1 (hm 1202 (by decide)), hU 13 1 (hm 1302 (by decide))]
  exact h
theorem gcOK_1 {c : Int} (hc : -2 ≤ c) : gcOK [c] := ⟨gcD_push rfl hc, by rw [gcN_push hc]; decide, fun d hd => by
  have e : d = c := by simpa using hd
  rw [e]
  exact Or.inl hc⟩
theorem shp_ok {G G' : gS} {r : Int} (h0 : 0 ≤ (G 1 1).toInt) (hx : xSH G G' r) (hG : lG G) : lG G' := by
  obtain ⟨ts, X, h1, h2, h3⟩ := hx
  obtain ⟨a1, a2, a3, a4, a5, a6, a7⟩ := h2
  rcases h3 with ⟨b1, b2, b3, b4, b5, b6, b7⟩ | ⟨b1, b2, nu, b3, b4⟩
  · unfold lG
    rw [b5.1, b5.2, b6.1, b6.2, b7.1, b7.2]
    exact hG
  · have hI : gcI (X 4 4).toInt (xSg X) := by
      rw [a1]
      refine gcI.none (fun i hi => ?_) (by decide)
      rcases (show i = 0 ∨ i = 1 ∨ i = 2 by omega) with rfl | rfl | rfl
      · show gcOK (tkr (X 29) (X 14 1).toInt.toNat)
        rw [a5]
        exact gcOK_1 (by decide)
      · show gcOK (tkr (X 32) (X 15 1).toInt.toNat)
        rw [a6]
        exact gcOK_1 (by decide)
      · show gcOK (tkr (X 35) (X 16 1).toInt.toNat)
        rw [a7]
        exact gcOK_1 (by decide)
    unfold xH at b3
    have q := gc_O (tL_nn h0 h1) hI (cnt := (X 4 5).toInt) (lat := (X 4 6).toInt) (cl := (X 4 2).toInt) (td := xTd (X 4 3)) (nu := X 19) (by rw [b3]) (by rw [b3])
    rw [b3] at q
    exact q
theorem tel_eq {G G2 : gS} {s r r2 : Int} {a b : Int32} (hN : lNu G G2) (hG : lG G) (hx : ((s < 0 ∨ 2 < s) ∧ r = 0) ∨ (s = 0 ∧ (gcOK (tkr (G 20) ((G 11 1).toInt).toNat) → r = (eV a b (tkr (G 20) ((G 11 1).toInt).toNat)).toInt)) ∨ (s = 1 ∧ (gcOK (tkr (G 23) ((G 12 1).toInt).toNat) → r = (eV a b (tkr (G 23) ((G 12 1).toInt).toNat)).toInt)) ∨ (s = 2 ∧ (gcOK (tkr (G 26) ((G 13 1).toInt).toNat) → r = (eV a b (tkr (G 26) ((G 13 1).toInt).toNat)).toInt))) (hy : ((s < 0 ∨ 2 < s) ∧ r2 = 0) ∨ (0 ≤ s ∧ s ≤ 2 ∧ (gcOK (mL s G2) → r2 = (eV a b (mL s G2)).toInt))) : r = r2 := by
  obtain ⟨-, n0, n1, n2⟩ := hN
  obtain ⟨g0, g1, g2⟩ := hG
  rcases hx with ⟨x1, x2⟩ | ⟨x1, x2⟩ | ⟨x1, x2⟩ | ⟨x1, x2⟩
  · rcases hy with ⟨y1, y2⟩ | ⟨y1, y2, y3⟩ <;> omega
  · subst x1
    rcases hy with ⟨y1, y2⟩ | ⟨y1, y2, y3⟩
    · omega
    · rw [← n0] at y3
      rw [x2 g0, y3 g0]
  · subst x1
    rcases hy with ⟨y1, y2⟩ | ⟨y1, y2, y3⟩
    · omega
    · rw [← n1] at y3
      rw [x2 g1, y3 g1]
  · subst x1
    rcases hy with ⟨y1, y2⟩ | ⟨y1, y2, y3⟩
    · omega
    · rw [← n2] at y3
      rw [x2 g2, y3 g2]
theorem x0_G : lG x0G := ⟨Eq.mpr (congrArg gcOK (show tkr (x0G 20) (x0G 11 1).toInt.toNat = [-1] from rfl)) (gcOK_1 (c := -1) (by decide)), Eq.mpr (congrArg gcOK (show tkr (x0G 23) (x0G 12 1).toInt.toNat = [0] from rfl)) (gcOK_1 (c := 0) (by decide)), Eq.mpr (congrArg gcOK (show tkr (x0G 26) (x0G 13 1).toInt.toNat = [0] from rfl)) (gcOK_1 (c := 0) (by decide))⟩
/-- what holds between two calls -/
def lI (G G2 : gS) : Prop := xI G ∧ yI G2 ∧ xF3 G ∧ yW3 G2 ∧ (G2 0 32).toInt = 0 ∧ (G 1 1).toInt = (G2 0 2).toInt ∧ (∀ i : Nat, (i : Int) < (G 1 1).toInt → G2 2 i = G 17 i) ∧ (G 10 2).toInt = (G2 0 72).toInt ∧ (∀ i : Nat, (i : Int) < (G 10 2).toInt → G2 46 i = G 88 i) ∧ (G 0 12).toInt = (G2 0 8).toInt ∧ (G 0 13).toInt = (G2 0 9).toInt ∧ lNu G G2 ∧ (G 8 3).toInt = (G2 0 45).toInt ∧ lG G ∧ (G 6 6).toInt = 0 ∧ pcB (xPc G) (yPc G2) ∧ pcK (xPc G) (yPc G2)
theorem x0_F3 : xF3 x0G := ⟨⟨⟨0, ⟨by decide, rfl⟩, fun _ => by decide⟩, by decide⟩, ⟨⟨0, ⟨by decide, rfl⟩, fun _ => by decide⟩, by decide⟩, ⟨⟨0, ⟨by decide, rfl⟩, fun _ => by decide⟩, by decide⟩⟩
theorem y0_W3 : yW3 y0G := fun w h0 h2 => by
  rcases (show w = 0 ∨ w = 1 ∨ w = 2 by omega) with rfl | rfl | rfl <;> (unfold yWf rpk; decide)
/-- a shop that both sides tell -/
theorem sq_ex {G G2 : gS} (hI : xI G) (hN : lNu G G2) (hG : lG G) (h6 : (G 6 6).toInt = 0) : ∃ (Q : gS) (C : Nat → List Int), xSq G Q C ∧ ySq G2 Q C ∧ (Q 0 1).toInt ≤ 6 ∧ (Q 0 0).toInt ≤ 16 := by
  obtain ⟨⟨n1, n2, n3⟩, c0, c1, c2⟩ := hN
  refine ⟨fun j => if j = 0 then G 18 else if j = 1 then (fun q => G 18 (20 + q)) else if j = 2 then (fun q => G 18 (30 + q)) else fun _ => G 18 10, fun w => if w = 0 then tkr (G 20) ((G 11 1).toInt).toNat else if w = 1 then tkr (G 23) ((G 12 1).toInt).toNat else tkr (G 26) ((G 13 1).toInt).toNat, ⟨fun q _ _ => rfl, fun q _ => rfl, fun q hq => ?_, ?_, rfl, rfl, rfl, hG.1, hG.2.1, hG.2.2⟩, ⟨fun q hq _ => n1 q hq, fun q hq => n3 q hq, fun q hq => n2 q hq, congrArg Int32.toInt (n1 10 (by decide)), c0, c1, c2, hG.1, hG.2.1, hG.2.2⟩, (hI 18 1).2, (hI 18 0).2⟩
  · unfold xTr
    rw [if_pos h6]
    rfl
  · unfold xTn
    rw [if_pos h6]
    rfl
theorem l0_B : pcB (xPc x0G) (yPc y0G) := pcF.eq (v := 1000) ⟨fun q _ => ⟨rfl, rfl⟩, rfl, rfl⟩ ⟨fun q _ => ⟨rfl, rfl⟩, rfl, rfl⟩
set_option maxRecDepth 20000 in
theorem l0_K : pcK (xPc x0G) (yPc y0G) := by
  have a : x0G 0 11 = 0 := by first | rfl | decide
  have b : y0G 0 37 = 0 := by first | rfl | decide
  exact ⟨(show x0G 0 11 = y0G 0 37 from a.trans b.symm), fun h => absurd (show x0G 0 11 = 0 from a) h⟩
theorem hg_eq {G G2 : gS} {a b r r2 : Int} {C C2 : Prop} (pB : pcB (xPc G) (yPc G2)) (hc : C → 0 ≤ a ∧ a ≤ 5 ∧ 0 ≤ b ∧ b ≤ 15) (hcc : C ↔ C2) (hx : (C ∧ r = (G 38 (a * 16 + b).toNat).toInt) ∨ (¬ C ∧ r = -100000)) (hy : (C2 ∧ r2 = (G2 14 (16 * a + b).toNat).toInt) ∨ (¬ C2 ∧ r2 = -100000)) : r = r2 := by
  rcases hx with ⟨x1, x2⟩ | ⟨x1, x2⟩ <;> rcases hy with ⟨y1, y2⟩ | ⟨y1, y2⟩
  · have h := (pB.1 (a * 16 + b).toNat (by have := hc x1; omega)).1
    rw [x2, y2, show 16 * a + b = a * 16 + b by omega]
    exact congrArg Int32.toInt h
  · exact absurd (hcc.mp x1) y1
  · exact absurd (hcc.mpr y1) x1
  · omega
theorem sg_eq {G G2 G' G2' : gS} {a b c r r2 : Int} {v : Int32} {C C2 : Prop} (pB : pcB (xPc G) (yPc G2)) (hc : C → 0 ≤ a ∧ a ≤ 5 ∧ 0 ≤ b ∧ b ≤ 15) (hcc : C ↔ C2) (hx : (C ∧ 100 ≤ c ∧ c ≤ 5000 ∧ r = (G 38 (a * 16 + b).toNat).toInt ∧ pcU (a * 16 + b).toNat v (xPc G) (xPc G')) ∨ (¬ (C ∧ 100 ≤ c ∧ c ≤ 5000) ∧ r = -100000 ∧ pcB (xPc G) (xPc G'))) (hy : (C2 ∧ 100 ≤ c ∧ c ≤ 5000 ∧ r2 = (G2 14 (16 * a + b).toNat).toInt ∧ pcU (16 * a + b).toNat v (yPc G2) (yPc G2')) ∨ (¬ (C2 ∧ 100 ≤ c ∧ c ≤ 5000) ∧ r2 = -100000 ∧ pcB (yPc G2) (yPc G2'))) : r = r2 ∧ pcB (xPc G') (yPc G2') := by
  rw [show 16 * a + b = a * 16 + b by omega] at hy
  rcases hx with ⟨x1, x2, x3, x4, x5⟩ | ⟨x1, x2, x3⟩ <;> rcases hy with ⟨y1, y2, y3, y4, y5⟩ | ⟨y1, y2, y3⟩
  · have h := (pB.1 (a * 16 + b).toNat (by have := hc x1; omega)).1
    exact ⟨by rw [x4, y4]; exact congrArg Int32.toInt h, pcU.eq pB x5 y5⟩
  · exact absurd ⟨hcc.mp x1, x2, x3⟩ y1
  · exact absurd ⟨hcc.mpr y1, y2, y3⟩ x1
  · exact ⟨by omega, pcB.go pB x3 y3⟩
theorem cg_eq {G G2 G' G2' : gS} {r r2 : Int} (pB : pcB (xPc G) (yPc G2)) (hx : r = (G 5 2).toInt ∧ pcW 0 (xPc G) (xPc G')) (hy : r2 = (G2 0 28).toInt ∧ pcW 0 (yPc G2) (yPc G2')) : r = r2 ∧ pcB (xPc G') (yPc G2') := ⟨by rw [hx.1, hy.1]; exact congrArg Int32.toInt pB.2.1, pcW.eq pB hx.2 hy.2⟩
theorem pd_eq {G G2 : gS} {a r r2 : Int} (pK : pcK (xPc G) (yPc G2)) (hx : (((G 0 11).toInt ≠ 0 ∧ 0 ≤ a ∧ a < 7) ∧ r = (G 90 a.toNat).toInt) ∨ (¬ ((G 0 11).toInt ≠ 0 ∧ 0 ≤ a ∧ a < 7) ∧ r = -1000000)) (hy : (((G2 0 37).toInt ≠ 0 ∧ 0 ≤ a ∧ a < 7) ∧ r2 = (G2 22 a.toNat).toInt) ∨ (¬ ((G2 0 37).toInt ≠ 0 ∧ 0 ≤ a ∧ a < 7) ∧ r2 = -1000000)) : r = r2 := by
  have e : G 0 11 = G2 0 37 := pK.1
  rw [← e] at hy
  rcases hx with ⟨x1, x2⟩ | ⟨x1, x2⟩ <;> rcases hy with ⟨y1, y2⟩ | ⟨y1, y2⟩
  · have h := pK.2 (fun z => x1.1 (by rw [show G 0 11 = 0 from z]; rfl)) a.toNat (by omega)
    rw [x2, y2]
    exact congrArg Int32.toInt h
  · exact absurd x1 y1
  · exact absurd y1 x1
  · omega
theorem lf_eq {G G2 : gS} {a b c r r2 : Int} {C C2 : Prop} (pB : pcB (xPc G) (yPc G2)) (hc : C → 0 ≤ a ∧ a ≤ 5 ∧ 0 ≤ b ∧ b ≤ 15) (hcc : C ↔ C2) (hx : ((C ∧ 0 ≤ c ∧ c < 4 ∧ (G 40 (a * 16 + b).toNat).toInt ≠ -1) ∧ r = (xPc G (c.toNat + 1) (a * 16 + b).toNat).toInt) ∨ (¬ (C ∧ 0 ≤ c ∧ c < 4 ∧ (G 40 (a * 16 + b).toNat).toInt ≠ -1) ∧ r = -1)) (hy : ((C2 ∧ 0 ≤ c ∧ c < 4 ∧ (G2 15 (16 * a + b).toNat).toInt ≠ -1) ∧ r2 = (yPc G2 (c.toNat + 1) (16 * a + b).toNat).toInt) ∨ (¬ (C2 ∧ 0 ≤ c ∧ c < 4 ∧ (G2 15 (16 * a + b).toNat).toInt ≠ -1) ∧ r2 = -1)) : r = r2 := by
  rw [show 16 * a + b = a * 16 + b by omega] at hy
  rcases hx with ⟨⟨x1, x3, x4, x5⟩, x2⟩ | ⟨x1, x2⟩ <;> rcases hy with ⟨⟨y1, y3, y4, y5⟩, y2⟩ | ⟨y1, y2⟩
  · obtain ⟨-, h1, h2⟩ := pB.1 (a * 16 + b).toNat (by have := hc x1; omega)
    obtain ⟨h2, h3, h4⟩ := h2 (fun z => x5 (by rw [show G 40 (a * 16 + b).toNat = -1 from z]; rfl))
    rw [x2, y2]
    rcases (show c = 0 ∨ c = 1 ∨ c = 2 ∨ c = 3 by omega) with rfl | rfl | rfl | rfl
    · exact congrArg Int32.toInt h1
    · exact congrArg Int32.toInt h2
    · exact congrArg Int32.toInt h3
    · exact congrArg Int32.toInt h4
  · have h1 := (pB.1 (a * 16 + b).toNat (by have := hc x1; omega)).2.1
    exact absurd ⟨hcc.mp x1, x3, x4, fun z => x5 (by rw [show G 40 (a * 16 + b).toNat = G2 15 (a * 16 + b).toNat from h1]; exact z)⟩ y1
  · have h1 := (pB.1 (a * 16 + b).toNat (by have := hc (hcc.mpr y1); omega)).2.1
    exact absurd ⟨hcc.mpr y1, y3, y4, fun z => y5 (by rw [← show G 40 (a * 16 + b).toNat = G2 15 (a * 16 + b).toNat from h1]; exact z)⟩ x1
  · omega
theorem l0_N : lNu x0G y0G := ⟨⟨fun q hq => by rcases (show q = 0 ∨ q = 1 ∨ q = 2 ∨ q = 3 ∨ q = 4 ∨ q = 5 ∨ q = 6 ∨ q = 7 ∨ q = 8 ∨ q = 9 ∨ q = 10 ∨ q = 11 by omega) with rfl | rfl | rfl | rfl | rfl | rfl | rfl | rfl | rfl | rfl | rfl | rfl <;> rfl, fun q hq => by (have h9 : (q : Int) < 1 := hq); (obtain rfl : q = 0 := by omega); rfl, fun q hq => by (have h9 : (q : Int) < 1 := hq); (obtain rfl : q = 0 := by omega); rfl⟩, rfl, rfl, rfl⟩
theorem l0_I : lI x0G y0G := ⟨x0_I, y0_I, x0_F3, y0_W3, by decide, by decide, fun i h => by have h9 : (i : Int) < 0 := h; omega, by decide, fun i h => by have h9 : (i : Int) < 0 := h; omega, by decide, by decide, l0_N, by decide, x0_G, by decide, l0_B, l0_K⟩
theorem snd_eq {bx bY : Nat → Int32} {n n2 : Int} {fx fy fx9 fy9 rx ry rx' ry' : Nat → Int32} {m m2 : Nat} {kd pc ct kd2 pc2 ct2 cx cy cx' cy' r r2 fk fp fk2 fp2 : Int} (hn : n = n2) (hb : ∀ i : Nat, (i : Int) < n → bY i = bx i) (h : sOut bx n m 0 0 0 fx kd pc ct fx9) (g : sOut bY n2 m2 0 0 0 fy kd2 pc2 ct2 fy9) (hx : (kd = 0 ∧ fk = 0 ∧ fp = -1 ∧ r = ct ∧ cx' = ct ∧ ∀ i : Nat, (i : Int) < ct → rx' i = fx9 i) ∨ (kd ≠ 0 ∧ fk = kd ∧ fp = pc ∧ r = -1 ∧ cx' = cx ∧ rx' = rx)) (hy : (kd2 = 0 ∧ fk2 = 0 ∧ fp2 = -1 ∧ r2 = ct2 ∧ cy' = ct2 ∧ ∀ i : Nat, (i : Int) < ct2 → ry' i = fy9 i) ∨ (kd2 ≠ 0 ∧ fk2 = kd2 ∧ fp2 = pc2 ∧ r2 = -1 ∧ cy' = cy ∧ ry' = ry)) (hc : cx = cy) (hr : ∀ i : Nat, (i : Int) < cx → ry i = rx i) : r = r2 ∧ fk = fk2 ∧ fp = fp2 ∧ cx' = cy' ∧ ∀ i : Nat, (i : Int) < cx' → ry' i = rx' i := by
  subst hn
  obtain ⟨e1, e2, e3⟩ := sOut.uniq (Int.le_refl 0) (sOut.eq hb (Int.le_refl 0) h) g (fun i hi => by omega)
  rcases hx with ⟨a1, p1, p2, a2, a3, a4⟩ | ⟨a1, p1, p2, a2, a3, a4⟩ <;> rcases hy with ⟨b1, q1, q2, b2, b3, b4⟩ | ⟨b1, q1, q2, b2, b3, b4⟩
  · obtain ⟨c1, c2⟩ := e3 a1
    exact ⟨by omega, by omega, by omega, by omega, fun i hi => by rw [b4 i (by omega), a4 i (by omega)]; exact c2 i (by omega)⟩
  · omega
  · omega
  · exact ⟨by omega, by omega, by omega, by omega, fun i hi => by rw [a4, b4]; exact hr i (by omega)⟩
