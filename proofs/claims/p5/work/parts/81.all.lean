theorem st_all {M N : Mem} (h : KF M N) (a : Nat → Int32) : Step M N a KF :=
  ⟨fun _ => st_rom h _ _ _ _, fun _ => st_insert h _, fun _ => st_run h _, fun _ => st_set h _ _, fun _ => st_register h _, fun _ => st_read h _, fun _ => st_write h _ _ _, fun _ => st_keys h _, fun _ => st_row h _, fun _ => st_pixel h _, fun _ => st_count h _, fun _ => st_speed h, fun _ => h⟩
theorem whole_start {p : Program} {e : Env} {s : State} {m : MethodId} {below : List Frame} {meth : Method} {c : Code} (l : Launch) (hl0 : l.stackTraces = false) {b L : Nat} {xs : Nat → Int32} (hL : L ≤ 3072) (C0 : lw_At p s m meth c b L xs) : W p l e room_1 s m #[Value.ref b] below meth c s.heap [] 0 0 (lw_Z below #[Value.ref b] s) (entryFrame m ([Value.ref b] : List Value).toArray 9) := by
  have t1 := so_T_startAnew (fun _ _ => 0) SC0
  have t2 := so_R_reset (fun _ _ => 0) SR0
  exact law_all l hl0 hL C0 (fun _ => KF) (fun M => M = f_T_startAnew_m (fun _ _ => 0)) (fun N => N = f_R_reset_m (fun _ _ => 0)) (sp_T_startAnew _ _ t1.1 rfl) (sp_R_reset _ _ t2.1 rfl) (fun M N h1 h2 => by rw [h1, h2]; exact KF0) (fun j M N _ h => st_all h _)
