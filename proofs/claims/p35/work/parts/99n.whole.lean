set_option maxHeartbeats 8000000 in
set_option maxRecDepth 100000 in
/-- YOUR PART: from the entry, for every script of at most 260 ints, the law comes to its end with true ('hflags': the launch's flags, for a law that throws: no stack traces) -/
theorem whole_start {p : Program} {e : Env} {s : State} {m : MethodId} {below : List Frame} {meth : Method} {c : Code} (l : Launch) (hflags : l.flags = flags0) {b L : Nat} {xs : Nat → Int32} (hL : L ≤ 260) (C0 : lw_At p s m meth c b L xs) : W p l e room_1 s m #[Value.ref b] below meth c s.heap [] 0 0 (lw_Z below #[Value.ref b] s) (entryFrame m ([Value.ref b] : List Value).toArray 23) := by
  obtain ⟨hx, hb, hr, hml, hown, hts, hX, hbl, hlocks, hgv⟩ := C0
  obtain ⟨D, ka, hK⟩ := env_K hts
  obtain ⟨kb, hk1, hk2, hE⟩ := env_E hts hgv hX hbl
  have hL2 : kb 2 ≤ 260 := by rw [hk2]; exact hL
  have hF : zF p s m #[Value.ref b] meth c D ka kb (fun q => s.heap.size ≤ q) cL_law RL 23 ret := ⟨⟨hx, hb, hml, hown, fun w h => hts w (wsL_law_in w h)⟩, hK, hE, fun q h => h, hr, hlocks⟩
  have hB : zB D (fun q => s.heap.size ≤ q) s [] s.heap [] := ⟨fun k q h => by simp at h, ⟨fun i j p q h => by simp at h, fun k q h => by simp at h⟩, va_S.rf⟩
  have hl := lv_entry ([.ref b]) (n := 23) (Nat.le_of_ble_eq_true rfl)
  rw [lg_entry_eq]
  generalize (lg_sl ([.ref b]) ++ List.replicate (23 - (lg_sl ([.ref b])).length) Slot.unset).toArray = ls at hl ⊢
  have hl : lv_has ls 23 [(0, .ref (kb 1))] := by rw [hk1]; exact hl
  refine znewo zn_L_16 hF hB (Nat.le_of_ble_eq_true rfl) (Nat.le_of_ble_eq_true rfl) dL_law_0 ?_
  clear hB
  intro b7 H locs hB
  refine lv_dup hx hb dL_law_3 rfl ?_
  refine zinI zmi_L_78 hF hB (c_X7_init l D ka kb b7) ⟨Nat.le_of_ble_eq_true rfl, Nat.le_of_ble_eq_true rfl⟩ hl.1 (Nat.le_of_ble_eq_true rfl) ⟨Nat.le_of_ble_eq_true rfl, Nat.le_of_ble_eq_true rfl⟩ dL_law_4 ?_
  clear hB
  clear locs
  clear H
  intro u H locs _ hB
  refine W.widen (k := 73) (n := 537) (Nat.le_of_ble_eq_true rfl) (Nat.le_of_ble_eq_true rfl) ?_
  refine lv_astore_n (lv' := [(1, .ref b7), (0, .ref (kb 1))]) hx hb dL_law_7 rfl hl (by decide) rfl (fun ls hl => ?_)
  obtain ⟨bd, na, hb31, hB2⟩ := start_world ka b7 u hB
  subst hb31
  obtain ⟨f1, f2, f3, f4, f5⟩ := V0_f
  refine lw_S1 l D ka kb bd na hF hL2 0 (fun _ => 0) (fun _ => 0) (fun _ => 0) (fun _ => 0) (upd (upd (fun _ => 0) 0 (4095 : Int32)) 1 (4095 : Int32)) 22 1 (fun _ => false) (upd (upd (upd (upd (fun _ => 0) 0 (2 : Int32)) 2 (1 : Int32)) 4 (1 : Int32)) 6 (2 : Int32)) (fun _ => (((0 : Int64), (0 : Int64), (0 : Int64), (0 : Int64), (1 : Int64)) : N5)) ((upd (upd (upd (upd (fun _ => 0) 0 (-1 : Int32)) 1 (-1 : Int32)) 2 (-1 : Int32)) 3 (-1 : Int32)), 0, false, false, false, 0, 0, 0, 0, ((0 : Int32), (0 : Int), (0 : Int), (fun _ => (0 : Int32)), (fun _ => (0 : Int32))), (fun _ => 0), (fun _ => 0), (fun _ => 0), 0, 0, (fun _ _ => 0)) (fun i hi => f1 i (by omega)) (fun i hi => f1 (8 + i) (by omega)) ⟨⟨by decide, by decide⟩, ⟨by decide, by decide⟩⟩ hB2 ?_ hl
  intro N1 j1 h81 hb1 H locs hB ls hl
  refine lw_S2 l D ka kb bd na hF hL2 (fun _ => 0) (fun _ => 0) (fun _ => 0) (fun _ => 0) (upd (upd (fun _ => 0) 0 (4095 : Int32)) 1 (4095 : Int32)) 22 1 (fun _ => false) (upd (upd (upd (upd (fun _ => 0) 0 (2 : Int32)) 2 (1 : Int32)) 4 (1 : Int32)) 6 (2 : Int32)) N1 j1 hB ?_ hl
  intro u9 mo1 an1 pl1 kp1 hu1 hok1 H locs hB ls hl
  refine lw_S3 l D ka kb bd na hF hL2 u9 mo1 an1 pl1 (fun _ => 0) (upd (upd (fun _ => 0) 0 (4095 : Int32)) 1 (4095 : Int32)) 22 1 kp1 (upd (upd (upd (upd (fun _ => 0) 0 (2 : Int32)) 2 (1 : Int32)) 4 (1 : Int32)) 6 (2 : Int32)) N1 j1 hu1 hok1 f5 ⟨by decide, by decide⟩ hb1 h81 f2 hB ?_ hl
  intro mo2 an2 pl2 kp2 st2 N2 j2 hok2 hb2 h82 hs2 H locs hB ls hl
  refine lv_iconst (v := 0) hx hb dL_law_306 (by decide) ?_
  refine lv_istore (lv' := [(13, .int (nI 0)), (1, .ref (bd 31)), (0, .ref (kb 1))]) hx hb dL_law_307 hl (by decide) rfl (fun ls hl => ?_)
  refine lw_planes l D ka kb bd na hF hL2 ?_ 2 0 rfl u9 mo2 an2 pl2 (fun _ => 0) (upd (upd (fun _ => 0) 0 (4095 : Int32)) 1 (4095 : Int32)) 22 1 kp2 st2 N2 j2 ⟨hok2, f5, ⟨by decide, by decide⟩, f3, hb2, h82, hs2, fun q _ hq => ⟨f4 q hq, fun _ _ => rfl⟩⟩ H locs hB ls hl
  intro L3 mo3 an3 pl3 ho3 le3 sz3 re3 kp3 st3 N3 j3 hPI H locs hB ls hl
  refine lw_S5 l D ka kb bd na hF hL2 L3 mo3 an3 pl3 ho3 le3 sz3 re3 kp3 st3 N3 j3 hPI hB ?_ hl
  intro ws H locs hB ls
  refine va_forget (fun q hq => hB.2.2.2.2 q hq) ?_
  refine W.widen (k := 600000) (n := 7302250) (Nat.le_of_ble_eq_true rfl) (Nat.le_of_ble_eq_true rfl) ?_
  exact lw_ret hx hb hr hlocks dL_law_813
