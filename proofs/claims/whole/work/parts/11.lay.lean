set_option maxHeartbeats 4000000 in
set_option maxRecDepth 100000 in
/-- lay(b): one byte more -/
theorem cb_M_lay (l : Launch) (dC : Nat → ClassId) (dI : Nat → Nat → Nat) (cB cI cJ : ClassId) (sz : Nat) (h : Nat) (g0 g1 g2 g3 g4 g6 g12 g13 g14 g16 g23 g25 g26 g27 g28 g31 g32 : Int32) (g5 g7 g8 g9 g10 g11 g15 g17 g18 g19 g20 g21 g22 g24 g29 : Nat) (f : Nat → Int32) (bs : List Int32) (hH : Hd bs f) (p0 : Int32) (hn : bs.length < 1400) : Met l yy_M_lay (Cond.code yy_M_lay cc_M_lay 2 none :: gw) { frames := 0, cells := 0, slots := 0, locals := 0 } (va_Pc [.ref h, .int p0] (ks_pre dC dI [(cB, .byte), (cI, .int), (cJ, .long)] [(h, .inr (1, [.int g0, .int g1, .int g2, .int g3, .int g4, .ref g5, .int g6, .ref g7, .ref g8, .ref g9, .ref g10, .ref g11, .int g12, .int g13, .int g14, .ref g15, .int g16, .ref g17, .ref g18, .ref g19, .ref g20, .ref g21, .ref g22, .int g23, .ref g24, .int g25, .int g26, .int g27, .int g28, .ref g29, .int (nI bs.length), .int g31, .int g32])), (g29, .inl (cB, 1400, .inl f))] sz)) (va_Qv (fun (u : Nat → Int32) => Hd (bs ++ [p0 &&& 255]) u) (fun (u : Nat → Int32) => ks_post dC dI [(cB, .byte), (cI, .int), (cJ, .long)] (va_A [(h, .inr (1, [.int g0, .int g1, .int g2, .int g3, .int g4, .ref g5, .int g6, .ref g7, .ref g8, .ref g9, .ref g10, .ref g11, .int g12, .int g13, .int g14, .ref g15, .int g16, .ref g17, .ref g18, .ref g19, .ref g20, .ref g21, .ref g22, .int g23, .ref g24, .int g25, .int g26, .int g27, .int g28, .ref g29, .int (nI bs.length), .int g31, .int g32])), (g29, .inl (cB, 1400, .inl f))] sz) [(h, .inr (1, [.int g0, .int g1, .int g2, .int g3, .int g4, .ref g5, .int g6, .ref g7, .ref g8, .ref g9, .ref g10, .ref g11, .int g12, .int g13, .int g14, .ref g15, .int g16, .ref g17, .ref g18, .ref g19, .ref g20, .ref g21, .ref g22, .int g23, .ref g24, .int g25, .int g26, .int g27, .int g28, .ref g29, .int (nI (bs.length + 1)), .int g31, .int g32])), (g29, .inl (cB, 1400, .inl u))]) (va_A [(h, .inr (1, [.int g0, .int g1, .int g2, .int g3, .int g4, .ref g5, .int g6, .ref g7, .ref g8, .ref g9, .ref g10, .ref g11, .int g12, .int g13, .int g14, .ref g15, .int g16, .ref g17, .ref g18, .ref g19, .ref g20, .ref g21, .ref g22, .int g23, .ref g24, .int g25, .int g26, .int g27, .int g28, .ref g29, .int (nI bs.length), .int g31, .int g32])), (g29, .inl (cB, 1400, .inl f))] sz)) 0 0 (va_A [(h, .inr (1, [.int g0, .int g1, .int g2, .int g3, .int g4, .ref g5, .int g6, .ref g7, .ref g8, .ref g9, .ref g10, .ref g11, .int g12, .int g13, .int g14, .ref g15, .int g16, .ref g17, .ref g18, .ref g19, .ref g20, .ref g21, .ref g22, .int g23, .ref g24, .int g25, .int g26, .int g27, .int g28, .ref g29, .int (nI bs.length), .int g31, .int g32])), (g29, .inl (cB, 1400, .inl f))] sz) := by
  refine Met.ofW (cc := cc_M_lay) (maxL := 2) (ret := none) (by decide) rfl ?_
  intro p e s m args below meth c s₁ B hml hv
  obtain ⟨rfl, hsz, hP, hK, hD0⟩ := hv
  have hx := B.exec
  have hb := B.bytes
  have hr := B.returns
  have hw : ∀ w ∈ gw, w.before _ s = true := fun w h => atoms_spec (ws := (Cond.code yy_M_lay cc_M_lay 2 none :: gw)) B.pre w (List.mem_cons_of_mem _ h)
  have hown : s.vm.findClass RR_M = some m.cls := findClass_of_methodNamed B.named
  have hlocks := B.notSynchronized
  subst hsz
  have hD := hD0.self (sz := s.heap.size)
  generalize hAe : va_A [(h, .inr (1, [.int g0, .int g1, .int g2, .int g3, .int g4, .ref g5, .int g6, .ref g7, .ref g8, .ref g9, .ref g10, .ref g11, .int g12, .int g13, .int g14, .ref g15, .int g16, .ref g17, .ref g18, .ref g19, .ref g20, .ref g21, .ref g22, .int g23, .ref g24, .int g25, .int g26, .int g27, .int g28, .ref g29, .int (nI bs.length), .int g31, .int g32])), (g29, .inl (cB, 1400, .inl f))] s.heap.size = A at hD ⊢
  have hA : ∀ q : Nat, s.heap.size ≤ q → A q := fun q h => by rw [← hAe]; exact Or.inr h
  have hS : va_S A s.heap s.heap [] := va_S.rf
  have hP : va_P (dC, dI) vcl [(h, .inr (1, [.int g0, .int g1, .int g2, .int g3, .int g4, .ref g5, .int g6, .ref g7, .ref g8, .ref g9, .ref g10, .ref g11, .int g12, .int g13, .int g14, .ref g15, .int g16, .ref g17, .ref g18, .ref g19, .ref g20, .ref g21, .ref g22, .int g23, .ref g24, .int g25, .int g26, .int g27, .int g28, .ref g29, .int (nI bs.length), .int g31, .int g32])), (g29, .inl (cB, 1400, .inl f))] s.heap := hP
  have hl := lv_entry ([.ref h, .int p0]) (n := 2) (Nat.le_of_ble_eq_true rfl)
  rw [lg_entry_eq]
  generalize (lg_sl ([.ref h, .int p0]) ++ List.replicate (2 - (lg_sl ([.ref h, .int p0])).length) Slot.unset).toArray = ls at hl ⊢
  have hl : lv_has ls 2 [(0, .ref h), (1, .int p0)] := hl
  refine lv_aload_n hx hb dd_M_lay_0 rfl (lv_at hl 0 rfl) ?_
  refine va_get (D := (dC, dI)) (ci := 1) (v := .ref g29) (C := RR_M) (T := TT_M) (N := 33) hx hb hw hh_M hown hK hP 0 rfl rfl 29 (by decide) (hw _ qq_608) (fun _ h9 => h9) rfl dd_M_lay_1 ?_
  refine lv_aload_n hx hb dd_M_lay_4 rfl (lv_at hl 0 rfl) ?_
  refine va_get (D := (dC, dI)) (ci := 1) (v := .int (nI bs.length)) (C := RR_M) (T := TT_M) (N := 33) hx hb hw hh_M hown hK hP 0 rfl rfl 30 (by decide) (hw _ qq_609) (fun _ h9 => h9) rfl dd_M_lay_5 ?_
  refine lv_iload_n hx hb dd_M_lay_8 rfl (lv_at hl 1 rfl) ?_
  refine lv_i2b (v := p0.toInt8.toInt32) hx hb dd_M_lay_9 rfl ?_
  refine va_bast hx hb hK hP hD hS 1 0 rfl rfl (vp_in_nI (by omega) (by decide)) dd_M_lay_10 (fun H locs hP hD hS => ?_)
  have hP : va_P (dC, dI) vcl [(h, .inr (1, [.int g0, .int g1, .int g2, .int g3, .int g4, .ref g5, .int g6, .ref g7, .ref g8, .ref g9, .ref g10, .ref g11, .int g12, .int g13, .int g14, .ref g15, .int g16, .ref g17, .ref g18, .ref g19, .ref g20, .ref g21, .ref g22, .int g23, .ref g24, .int g25, .int g26, .int g27, .int g28, .ref g29, .int (nI bs.length), .int g31, .int g32])), (g29, .inl (cB, 1400, .inl (upd f (nI bs.length).toNatClampNeg (vp_nar .byte p0.toInt8.toInt32))))] H := hP
  have hD : va_D A [(h, .inr (1, [.int g0, .int g1, .int g2, .int g3, .int g4, .ref g5, .int g6, .ref g7, .ref g8, .ref g9, .ref g10, .ref g11, .int g12, .int g13, .int g14, .ref g15, .int g16, .ref g17, .ref g18, .ref g19, .ref g20, .ref g21, .ref g22, .int g23, .ref g24, .int g25, .int g26, .int g27, .int g28, .ref g29, .int (nI bs.length), .int g31, .int g32])), (g29, .inl (cB, 1400, .inl (upd f (nI bs.length).toNatClampNeg (vp_nar .byte p0.toInt8.toInt32))))] := hD
  refine lv_aload_n hx hb dd_M_lay_11 rfl (lv_at hl 0 rfl) ?_
  refine lv_dup hx hb dd_M_lay_12 rfl ?_
  refine va_get (D := (dC, dI)) (ci := 1) (v := .int (nI bs.length)) (C := RR_M) (T := TT_M) (N := 33) hx hb hw hh_M hown hK hP 0 rfl rfl 30 (by decide) (hw _ qq_609) (fun _ h9 => h9) rfl dd_M_lay_13 ?_
  refine lv_iconst (v := 1) hx hb dd_M_lay_16 (by decide) ?_
  refine lv_iadd hx hb dd_M_lay_17 ?_
  refine va_put (D := (dC, dI)) (ci := 1) (v := .int ((nI bs.length) + 1)) (ty := .int) (C := RR_M) (T := TT_M) (N := 33) hx hb hw hh_M ty_M ty_M_ok nm_M hown hK hP hD hS 0 rfl rfl 30 (by decide) (hw _ qq_609) (fun _ h9 => h9) rfl (by decide +kernel) rfl rfl (Nat.le_of_ble_eq_true rfl) dd_M_lay_18 (fun H locs hP hD hS => ?_)
  have hP : va_P (dC, dI) vcl [(h, .inr (1, [.int g0, .int g1, .int g2, .int g3, .int g4, .ref g5, .int g6, .ref g7, .ref g8, .ref g9, .ref g10, .ref g11, .int g12, .int g13, .int g14, .ref g15, .int g16, .ref g17, .ref g18, .ref g19, .ref g20, .ref g21, .ref g22, .int g23, .ref g24, .int g25, .int g26, .int g27, .int g28, .ref g29, .int ((nI bs.length) + 1), .int g31, .int g32])), (g29, .inl (cB, 1400, .inl (upd f (nI bs.length).toNatClampNeg (vp_nar .byte p0.toInt8.toInt32))))] H := hP
  have hD : va_D A [(h, .inr (1, [.int g0, .int g1, .int g2, .int g3, .int g4, .ref g5, .int g6, .ref g7, .ref g8, .ref g9, .ref g10, .ref g11, .int g12, .int g13, .int g14, .ref g15, .int g16, .ref g17, .ref g18, .ref g19, .ref g20, .ref g21, .ref g22, .int g23, .ref g24, .int g25, .int g26, .int g27, .int g28, .ref g29, .int ((nI bs.length) + 1), .int g31, .int g32])), (g29, .inl (cB, 1400, .inl (upd f (nI bs.length).toNatClampNeg (vp_nar .byte p0.toInt8.toInt32))))] := hD
  have e_1 : (nI bs.length) + 1 = nI (bs.length + 1) := nI_1 bs.length
  have hP : va_P (dC, dI) vcl [(h, .inr (1, [.int g0, .int g1, .int g2, .int g3, .int g4, .ref g5, .int g6, .ref g7, .ref g8, .ref g9, .ref g10, .ref g11, .int g12, .int g13, .int g14, .ref g15, .int g16, .ref g17, .ref g18, .ref g19, .ref g20, .ref g21, .ref g22, .int g23, .ref g24, .int g25, .int g26, .int g27, .int g28, .ref g29, .int (nI (bs.length + 1)), .int g31, .int g32])), (g29, .inl (cB, 1400, .inl (upd f (nI bs.length).toNatClampNeg (vp_nar .byte p0.toInt8.toInt32))))] H := by rw [← e_1]; exact hP
  have hD : va_D A [(h, .inr (1, [.int g0, .int g1, .int g2, .int g3, .int g4, .ref g5, .int g6, .ref g7, .ref g8, .ref g9, .ref g10, .ref g11, .int g12, .int g13, .int g14, .ref g15, .int g16, .ref g17, .ref g18, .ref g19, .ref g20, .ref g21, .ref g22, .int g23, .ref g24, .int g25, .int g26, .int g27, .int g28, .ref g29, .int (nI (bs.length + 1)), .int g31, .int g32])), (g29, .inl (cB, 1400, .inl (upd f (nI bs.length).toNatClampNeg (vp_nar .byte p0.toInt8.toInt32))))] := by rw [← e_1]; exact hD
  have hP9 := hP.sub (ws' := [(h, .inr (1, [.int g0, .int g1, .int g2, .int g3, .int g4, .ref g5, .int g6, .ref g7, .ref g8, .ref g9, .ref g10, .ref g11, .int g12, .int g13, .int g14, .ref g15, .int g16, .ref g17, .ref g18, .ref g19, .ref g20, .ref g21, .ref g22, .int g23, .ref g24, .int g25, .int g26, .int g27, .int g28, .ref g29, .int (nI (bs.length + 1)), .int g31, .int g32])), (g29, .inl (cB, 1400, .inl (upd f (nI bs.length).toNatClampNeg (vp_nar .byte p0.toInt8.toInt32))))]) [0, 1] rfl
  have hD9 := hD.sub (ws' := [(h, .inr (1, [.int g0, .int g1, .int g2, .int g3, .int g4, .ref g5, .int g6, .ref g7, .ref g8, .ref g9, .ref g10, .ref g11, .int g12, .int g13, .int g14, .ref g15, .int g16, .ref g17, .ref g18, .ref g19, .ref g20, .ref g21, .ref g22, .int g23, .ref g24, .int g25, .int g26, .int g27, .int g28, .ref g29, .int (nI (bs.length + 1)), .int g31, .int g32])), (g29, .inl (cB, 1400, .inl (upd f (nI bs.length).toNatClampNeg (vp_nar .byte p0.toInt8.toInt32))))]) [0, 1] (by decide) rfl
  refine W.widen (k := 0) (n := 0) (by first | exact Nat.le_refl _ | omega) (by first | exact Nat.le_refl _ | omega) ?_
  exact W.vret hx hb hr (fun t ht hW => ⟨⟨upd f (nI bs.length).toNatClampNeg (vp_nar .byte p0.toInt8.toInt32), rfl, (by rw [nI_clamp (by omega), by8_by8]; exact Hd_put hH p0), by rw [ht]; exact hP9, va_K.moved hW.alike hK, hD9⟩, hS.F ht⟩) hS.2.2 dd_M_lay_21

set_option maxHeartbeats 4000000 in
set_option maxRecDepth 100000 in
/-- layU(n) -/
theorem cb_M_layU (l : Launch) (dC : Nat → ClassId) (dI : Nat → Nat → Nat) (cB cI cJ : ClassId) (sz : Nat) (h : Nat) (g0 g1 g2 g3 g4 g6 g12 g13 g14 g16 g23 g25 g26 g27 g28 g31 g32 : Int32) (g5 g7 g8 g9 g10 g11 g15 g17 g18 g19 g20 g21 g22 g24 g29 : Nat) (f0 : Nat → Int32) (bs0 : List Int32) (hH : Hd bs0 f0) (n0 : Nat) (hn0 : n0 < 2147483648) (hRm : bs0.length + (encUf 4 n0).length ≤ 1400) : Met l yy_M_layU (Cond.code yy_M_layU cc_M_layU 3 none :: gw) { frames := 1, cells := 0, slots := 0, locals := 21 } (va_Pc [.ref h, .int (nI n0)] (ks_pre dC dI [(cB, .byte), (cI, .int), (cJ, .long)] [(h, .inr (1, [.int g0, .int g1, .int g2, .int g3, .int g4, .ref g5, .int g6, .ref g7, .ref g8, .ref g9, .ref g10, .ref g11, .int g12, .int g13, .int g14, .ref g15, .int g16, .ref g17, .ref g18, .ref g19, .ref g20, .ref g21, .ref g22, .int g23, .ref g24, .int g25, .int g26, .int g27, .int g28, .ref g29, .int (nI bs0.length), .int g31, .int g32])), (g29, .inl (cB, 1400, .inl f0))] sz)) (va_Qv (fun (u : Nat → Int32) => Hd (bs0 ++ encUf 4 n0) u) (fun (u : Nat → Int32) => ks_post dC dI [(cB, .byte), (cI, .int), (cJ, .long)] (va_A [(h, .inr (1, [.int g0, .int g1, .int g2, .int g3, .int g4, .ref g5, .int g6, .ref g7, .ref g8, .ref g9, .ref g10, .ref g11, .int g12, .int g13, .int g14, .ref g15, .int g16, .ref g17, .ref g18, .ref g19, .ref g20, .ref g21, .ref g22, .int g23, .ref g24, .int g25, .int g26, .int g27, .int g28, .ref g29, .int (nI bs0.length), .int g31, .int g32])), (g29, .inl (cB, 1400, .inl f0))] sz) [(h, .inr (1, [.int g0, .int g1, .int g2, .int g3, .int g4, .ref g5, .int g6, .ref g7, .ref g8, .ref g9, .ref g10, .ref g11, .int g12, .int g13, .int g14, .ref g15, .int g16, .ref g17, .ref g18, .ref g19, .ref g20, .ref g21, .ref g22, .int g23, .ref g24, .int g25, .int g26, .int g27, .int g28, .ref g29, .int (nI (bs0 ++ encUf 4 n0).length), .int g31, .int g32])), (g29, .inl (cB, 1400, .inl u))]) (va_A [(h, .inr (1, [.int g0, .int g1, .int g2, .int g3, .int g4, .ref g5, .int g6, .ref g7, .ref g8, .ref g9, .ref g10, .ref g11, .int g12, .int g13, .int g14, .ref g15, .int g16, .ref g17, .ref g18, .ref g19, .ref g20, .ref g21, .ref g22, .int g23, .ref g24, .int g25, .int g26, .int g27, .int g28, .ref g29, .int (nI bs0.length), .int g31, .int g32])), (g29, .inl (cB, 1400, .inl f0))] sz)) 0 0 (va_A [(h, .inr (1, [.int g0, .int g1, .int g2, .int g3, .int g4, .ref g5, .int g6, .ref g7, .ref g8, .ref g9, .ref g10, .ref g11, .int g12, .int g13, .int g14, .ref g15, .int g16, .ref g17, .ref g18, .ref g19, .ref g20, .ref g21, .ref g22, .int g23, .ref g24, .int g25, .int g26, .int g27, .int g28, .ref g29, .int (nI bs0.length), .int g31, .int g32])), (g29, .inl (cB, 1400, .inl f0))] sz) := by
  refine Met.ofW (cc := cc_M_layU) (maxL := 3) (ret := none) (by decide) rfl ?_
  intro p e s m args below meth c s₁ B hml hv
  obtain ⟨rfl, hsz, hP, hK, hD0⟩ := hv
  have hx := B.exec
  have hb := B.bytes
  have hr := B.returns
  have hw : ∀ w ∈ gw, w.before _ s = true := fun w h => atoms_spec (ws := (Cond.code yy_M_layU cc_M_layU 3 none :: gw)) B.pre w (List.mem_cons_of_mem _ h)
  have hown : s.vm.findClass RR_M = some m.cls := findClass_of_methodNamed B.named
  have hlocks := B.notSynchronized
  subst hsz
  have hD := hD0.self (sz := s.heap.size)
  generalize hAe : va_A [(h, .inr (1, [.int g0, .int g1, .int g2, .int g3, .int g4, .ref g5, .int g6, .ref g7, .ref g8, .ref g9, .ref g10, .ref g11, .int g12, .int g13, .int g14, .ref g15, .int g16, .ref g17, .ref g18, .ref g19, .ref g20, .ref g21, .ref g22, .int g23, .ref g24, .int g25, .int g26, .int g27, .int g28, .ref g29, .int (nI bs0.length), .int g31, .int g32])), (g29, .inl (cB, 1400, .inl f0))] s.heap.size = A at hD ⊢
  have hA : ∀ q : Nat, s.heap.size ≤ q → A q := fun q h => by rw [← hAe]; exact Or.inr h
  have hS : va_S A s.heap s.heap [] := va_S.rf
  have hP : va_P (dC, dI) vcl [(h, .inr (1, [.int g0, .int g1, .int g2, .int g3, .int g4, .ref g5, .int g6, .ref g7, .ref g8, .ref g9, .ref g10, .ref g11, .int g12, .int g13, .int g14, .ref g15, .int g16, .ref g17, .ref g18, .ref g19, .ref g20, .ref g21, .ref g22, .int g23, .ref g24, .int g25, .int g26, .int g27, .int g28, .ref g29, .int (nI bs0.length), .int g31, .int g32])), (g29, .inl (cB, 1400, .inl f0))] s.heap := hP
  have hl := lv_entry ([.ref h, .int (nI n0)]) (n := 3) (Nat.le_of_ble_eq_true rfl)
  rw [lg_entry_eq]
  generalize (lg_sl ([.ref h, .int (nI n0)]) ++ List.replicate (3 - (lg_sl ([.ref h, .int (nI n0)])).length) Slot.unset).toArray = ls at hl ⊢
  have hl : lv_has ls 3 [(0, .ref h), (1, .int (nI n0))] := hl
  refine lv_iload_n hx hb dd_M_layU_0 rfl (lv_at hl 1 rfl) ?_
  refine lv_istore_n (lv' := [(2, .int (nI n0)), (0, .ref h), (1, .int (nI n0))]) hx hb dd_M_layU_1 rfl hl (by decide) rfl (fun ls hl => ?_)
  have lp_1 : ∀ (k : Nat) (n : Nat) (bs : List Int32) (f : Nat → Int32), Hd bs f → n < 128 ^ (k + 1) → n < 2147483648 → bs0 ++ encUf 4 n0 = bs ++ encUf k n → bs.length + (encUf k n).length ≤ 1400 → ∀ (H : Heap) (locs : List Loc), va_P (dC, dI) vcl [(h, .inr (1, [.int g0, .int g1, .int g2, .int g3, .int g4, .ref g5, .int g6, .ref g7, .ref g8, .ref g9, .ref g10, .ref g11, .int g12, .int g13, .int g14, .ref g15, .int g16, .ref g17, .ref g18, .ref g19, .ref g20, .ref g21, .ref g22, .int g23, .ref g24, .int g25, .int g26, .int g27, .int g28, .ref g29, .int (nI bs.length), .int g31, .int g32])), (g29, .inl (cB, 1400, .inl f))] H → va_D A [(h, .inr (1, [.int g0, .int g1, .int g2, .int g3, .int g4, .ref g5, .int g6, .ref g7, .ref g8, .ref g9, .ref g10, .ref g11, .int g12, .int g13, .int g14, .ref g15, .int g16, .ref g17, .ref g18, .ref g19, .ref g20, .ref g21, .ref g22, .int g23, .ref g24, .int g25, .int g26, .int g27, .int g28, .ref g29, .int (nI bs.length), .int g31, .int g32])), (g29, .inl (cB, 1400, .inl f))] → va_S A s.heap H locs → ∀ ls : Array Slot, lv_has ls 3 [(0, .ref h), (1, .int (nI n0)), (2, .int (nI n))] → W p l e (headSpec (Cond.code yy_M_layU cc_M_layU 3 none :: gw) { frames := 1, cells := 0, slots := 0, locals := 21 }).room s m ([.ref h, .int (nI n0)] : List Value).toArray below meth c H locs 0 0 (MQ below (va_Qv (fun (u : Nat → Int32) => Hd (bs0 ++ encUf 4 n0) u) (fun (u : Nat → Int32) => ks_post dC dI [(cB, .byte), (cI, .int), (cJ, .long)] A [(h, .inr (1, [.int g0, .int g1, .int g2, .int g3, .int g4, .ref g5, .int g6, .ref g7, .ref g8, .ref g9, .ref g10, .ref g11, .int g12, .int g13, .int g14, .ref g15, .int g16, .ref g17, .ref g18, .ref g19, .ref g20, .ref g21, .ref g22, .int g23, .ref g24, .int g25, .int g26, .int g27, .int g28, .ref g29, .int (nI (bs0 ++ encUf 4 n0).length), .int g31, .int g32])), (g29, .inl (cB, 1400, .inl u))]) A) ([.ref h, .int (nI n0)] : List Value).toArray s 0 0 A) (F0 m 2 ls []) := by
    intro k
    induction k with
    | zero =>
      intro n bs f hH hk hn hU hRm H locs hP hD hS ls hl
      refine lv_iload_n hx hb dd_M_layU_2 rfl (lv_at hl 2 rfl) ?_
      refine lv_bipush (v := 127) hx hb dd_M_layU_3 (by decide) ?_
      refine lv_icmp_le (tgt := 30) hx hb dd_M_layU_5 (by decide) (fun c_2 => ?_) (fun c_2 => ?_)
      · have hlt : n < 128 := by omega
        refine lv_aload_n hx hb dd_M_layU_30 rfl (lv_at hl 0 rfl) ?_
        refine lv_iload_n hx hb dd_M_layU_31 rfl (lv_at hl 2 rfl) ?_
        have hPc := hP.sub (ws' := [(h, .inr (1, [.int g0, .int g1, .int g2, .int g3, .int g4, .ref g5, .int g6, .ref g7, .ref g8, .ref g9, .ref g10, .ref g11, .int g12, .int g13, .int g14, .ref g15, .int g16, .ref g17, .ref g18, .ref g19, .ref g20, .ref g21, .ref g22, .int g23, .ref g24, .int g25, .int g26, .int g27, .int g28, .ref g29, .int (nI bs.length), .int g31, .int g32])), (g29, .inl (cB, 1400, .inl f))]) [0, 1] rfl
        have hDc := hD.sub (ws' := [(h, .inr (1, [.int g0, .int g1, .int g2, .int g3, .int g4, .ref g5, .int g6, .ref g7, .ref g8, .ref g9, .ref g10, .ref g11, .int g12, .int g13, .int g14, .ref g15, .int g16, .ref g17, .ref g18, .ref g19, .ref g20, .ref g21, .ref g22, .int g23, .ref g24, .int g25, .int g26, .int g27, .int g28, .ref g29, .int (nI bs.length), .int g31, .int g32])), (g29, .inl (cB, 1400, .inl f))]) [0, 1] (by decide) rfl
        have hFc := va_free (wc := [(h, .inr (1, [.int g0, .int g1, .int g2, .int g3, .int g4, .ref g5, .int g6, .ref g7, .ref g8, .ref g9, .ref g10, .ref g11, .int g12, .int g13, .int g14, .ref g15, .int g16, .ref g17, .ref g18, .ref g19, .ref g20, .ref g21, .ref g22, .int g23, .ref g24, .int g25, .int g26, .int g27, .int g28, .ref g29, .int (nI bs.length), .int g31, .int g32])), (g29, .inl (cB, 1400, .inl f))]) hD hS hA [0, 1] rfl
        refine va_callv (va_runV (As := [.int (nI n)]) (rest := []) ⟨hx, hb, hml, hown, hw⟩ (cb_M_lay l dC dI cB cI cJ H.size h g0 g1 g2 g3 g4 g6 g12 g13 g14 g16 g23 g25 g26 g27 g28 g31 g32 g5 g7 g8 g9 g10 g11 g15 g17 g18 g19 g20 g21 g22 g24 g29 f bs hH (nI n) (by have := encUf_pos 0 n; omega)) (kw_V 1 hw qq_735 qq_5 qq_738 qq_737 qs_M_lay rfl rfl (by decide +kernel) ⟨Nat.le_of_ble_eq_true rfl, Nat.le_of_ble_eq_true rfl⟩) ⟨fun a U g mk q => by obtain ⟨q0, q1, qP, qK, qD⟩ := q; exact ⟨q0, q1, qP, va_K.moved (u := U) (U := U.calling g mk a) (Vm.Alike.refl U.vm) qK, qD⟩, va_recv hK hPc (ci := 1) (q0 := 0) rfl rfl, fun U hU hW => ⟨rfl, by rw [hU], by rw [hU]; exact hPc, va_K.moved hW.alike hK, hDc.weaken (fun _ _ _ _ => trivial)⟩⟩ rfl rfl hl.1 rfl (lv_room (Nat.le_of_ble_eq_true rfl)) dd_M_layU_32 ⟨by first | exact Nat.le_of_ble_eq_true rfl | (simp only [headSpec]; omega), by first | exact Nat.le_of_ble_eq_true rfl | (simp only [headSpec]; omega)⟩) hS (fun q _ h => hFc q h) hFc (fun f_3 t H1 locs ht hvm hq_4 hB hz1 hk1 hS => ?_)
        obtain ⟨hP1, hK1, hD1⟩ := hB
        rw [ht] at hP1
        obtain ⟨hP, hD⟩ := va_join (wr := []) (w1 := [(h, .inr (1, [.int g0, .int g1, .int g2, .int g3, .int g4, .ref g5, .int g6, .ref g7, .ref g8, .ref g9, .ref g10, .ref g11, .int g12, .int g13, .int g14, .ref g15, .int g16, .ref g17, .ref g18, .ref g19, .ref g20, .ref g21, .ref g22, .int g23, .ref g24, .int g25, .int g26, .int g27, .int g28, .ref g29, .int (nI (bs.length + 1)), .int g31, .int g32])), (g29, .inl (cB, 1400, .inl f_3))]) hP hD [0, 1] [] rfl rfl (by decide) (by decide) hk1 hFc hP1 hD1
        clear hP1 hK1 hD1 ht hvm hz1 hk1 hPc hDc hFc
        generalize H1 = H at hP hS ⊢
        have hP : va_P (dC, dI) vcl [(h, .inr (1, [.int g0, .int g1, .int g2, .int g3, .int g4, .ref g5, .int g6, .ref g7, .ref g8, .ref g9, .ref g10, .ref g11, .int g12, .int g13, .int g14, .ref g15, .int g16, .ref g17, .ref g18, .ref g19, .ref g20, .ref g21, .ref g22, .int g23, .ref g24, .int g25, .int g26, .int g27, .int g28, .ref g29, .int (nI (bs.length + 1)), .int g31, .int g32])), (g29, .inl (cB, 1400, .inl f_3))] H := hP
        have hD : va_D A [(h, .inr (1, [.int g0, .int g1, .int g2, .int g3, .int g4, .ref g5, .int g6, .ref g7, .ref g8, .ref g9, .ref g10, .ref g11, .int g12, .int g13, .int g14, .ref g15, .int g16, .ref g17, .ref g18, .ref g19, .ref g20, .ref g21, .ref g22, .int g23, .ref g24, .int g25, .int g26, .int g27, .int g28, .ref g29, .int (nI (bs.length + 1)), .int g31, .int g32])), (g29, .inl (cB, 1400, .inl f_3))] := hD
        have hq_4 : Hd (bs ++ [nI n]) f_3 := by rw [nI_255 (by omega)] at hq_4; exact hq_4
        have e_5 : nI (bs.length + 1) = nI (bs ++ [nI n]).length := (by rw [List.length_append]; rfl)
        have hP : va_P (dC, dI) vcl [(h, .inr (1, [.int g0, .int g1, .int g2, .int g3, .int g4, .ref g5, .int g6, .ref g7, .ref g8, .ref g9, .ref g10, .ref g11, .int g12, .int g13, .int g14, .ref g15, .int g16, .ref g17, .ref g18, .ref g19, .ref g20, .ref g21, .ref g22, .int g23, .ref g24, .int g25, .int g26, .int g27, .int g28, .ref g29, .int (nI (bs ++ [nI n]).length), .int g31, .int g32])), (g29, .inl (cB, 1400, .inl f_3))] H := by rw [← e_5]; exact hP
        have hD : va_D A [(h, .inr (1, [.int g0, .int g1, .int g2, .int g3, .int g4, .ref g5, .int g6, .ref g7, .ref g8, .ref g9, .ref g10, .ref g11, .int g12, .int g13, .int g14, .ref g15, .int g16, .ref g17, .ref g18, .ref g19, .ref g20, .ref g21, .ref g22, .int g23, .ref g24, .int g25, .int g26, .int g27, .int g28, .ref g29, .int (nI (bs ++ [nI n]).length), .int g31, .int g32])), (g29, .inl (cB, 1400, .inl f_3))] := by rw [← e_5]; exact hD
        have hfin : bs ++ [nI n] = bs0 ++ encUf 4 n0 := by rw [hU, encUf]
        have e_6 : nI (bs ++ [nI n]).length = nI (bs0 ++ encUf 4 n0).length := (by rw [hfin])
        have hP : va_P (dC, dI) vcl [(h, .inr (1, [.int g0, .int g1, .int g2, .int g3, .int g4, .ref g5, .int g6, .ref g7, .ref g8, .ref g9, .ref g10, .ref g11, .int g12, .int g13, .int g14, .ref g15, .int g16, .ref g17, .ref g18, .ref g19, .ref g20, .ref g21, .ref g22, .int g23, .ref g24, .int g25, .int g26, .int g27, .int g28, .ref g29, .int (nI (bs0 ++ encUf 4 n0).length), .int g31, .int g32])), (g29, .inl (cB, 1400, .inl f_3))] H := by rw [← e_6]; exact hP
        have hD : va_D A [(h, .inr (1, [.int g0, .int g1, .int g2, .int g3, .int g4, .ref g5, .int g6, .ref g7, .ref g8, .ref g9, .ref g10, .ref g11, .int g12, .int g13, .int g14, .ref g15, .int g16, .ref g17, .ref g18, .ref g19, .ref g20, .ref g21, .ref g22, .int g23, .ref g24, .int g25, .int g26, .int g27, .int g28, .ref g29, .int (nI (bs0 ++ encUf 4 n0).length), .int g31, .int g32])), (g29, .inl (cB, 1400, .inl f_3))] := by rw [← e_6]; exact hD
        have hP9 := hP.sub (ws' := [(h, .inr (1, [.int g0, .int g1, .int g2, .int g3, .int g4, .ref g5, .int g6, .ref g7, .ref g8, .ref g9, .ref g10, .ref g11, .int g12, .int g13, .int g14, .ref g15, .int g16, .ref g17, .ref g18, .ref g19, .ref g20, .ref g21, .ref g22, .int g23, .ref g24, .int g25, .int g26, .int g27, .int g28, .ref g29, .int (nI (bs0 ++ encUf 4 n0).length), .int g31, .int g32])), (g29, .inl (cB, 1400, .inl f_3))]) [0, 1] rfl
        have hD9 := hD.sub (ws' := [(h, .inr (1, [.int g0, .int g1, .int g2, .int g3, .int g4, .ref g5, .int g6, .ref g7, .ref g8, .ref g9, .ref g10, .ref g11, .int g12, .int g13, .int g14, .ref g15, .int g16, .ref g17, .ref g18, .ref g19, .ref g20, .ref g21, .ref g22, .int g23, .ref g24, .int g25, .int g26, .int g27, .int g28, .ref g29, .int (nI (bs0 ++ encUf 4 n0).length), .int g31, .int g32])), (g29, .inl (cB, 1400, .inl f_3))]) [0, 1] (by decide) rfl
        refine W.widen (k := 0) (n := 0) (by first | exact Nat.le_refl _ | omega) (by first | exact Nat.le_refl _ | omega) ?_
        exact W.vret hx hb hr (fun t ht hW => ⟨⟨f_3, rfl, (by rw [← hfin]; exact hq_4), by rw [ht]; exact hP9, va_K.moved hW.alike hK, hD9⟩, hS.F ht⟩) hS.2.2 dd_M_layU_35
      · exact absurd ((nI_127 (by omega)).mpr (by omega)) c_2
    | succ k ih =>
      intro n bs f hH hk hn hU hRm H locs hP hD hS ls hl
      refine lv_iload_n hx hb dd_M_layU_2 rfl (lv_at hl 2 rfl) ?_
      refine lv_bipush (v := 127) hx hb dd_M_layU_3 (by decide) ?_
      refine lv_icmp_le (tgt := 30) hx hb dd_M_layU_5 (by decide) (fun c_7 => ?_) (fun c_7 => ?_)
      · have hlt : n < 128 := (nI_127 (by omega)).mp c_7
        refine lv_aload_n hx hb dd_M_layU_30 rfl (lv_at hl 0 rfl) ?_
        refine lv_iload_n hx hb dd_M_layU_31 rfl (lv_at hl 2 rfl) ?_
        have hPc := hP.sub (ws' := [(h, .inr (1, [.int g0, .int g1, .int g2, .int g3, .int g4, .ref g5, .int g6, .ref g7, .ref g8, .ref g9, .ref g10, .ref g11, .int g12, .int g13, .int g14, .ref g15, .int g16, .ref g17, .ref g18, .ref g19, .ref g20, .ref g21, .ref g22, .int g23, .ref g24, .int g25, .int g26, .int g27, .int g28, .ref g29, .int (nI bs.length), .int g31, .int g32])), (g29, .inl (cB, 1400, .inl f))]) [0, 1] rfl
        have hDc := hD.sub (ws' := [(h, .inr (1, [.int g0, .int g1, .int g2, .int g3, .int g4, .ref g5, .int g6, .ref g7, .ref g8, .ref g9, .ref g10, .ref g11, .int g12, .int g13, .int g14, .ref g15, .int g16, .ref g17, .ref g18, .ref g19, .ref g20, .ref g21, .ref g22, .int g23, .ref g24, .int g25, .int g26, .int g27, .int g28, .ref g29, .int (nI bs.length), .int g31, .int g32])), (g29, .inl (cB, 1400, .inl f))]) [0, 1] (by decide) rfl
        have hFc := va_free (wc := [(h, .inr (1, [.int g0, .int g1, .int g2, .int g3, .int g4, .ref g5, .int g6, .ref g7, .ref g8, .ref g9, .ref g10, .ref g11, .int g12, .int g13, .int g14, .ref g15, .int g16, .ref g17, .ref g18, .ref g19, .ref g20, .ref g21, .ref g22, .int g23, .ref g24, .int g25, .int g26, .int g27, .int g28, .ref g29, .int (nI bs.length), .int g31, .int g32])), (g29, .inl (cB, 1400, .inl f))]) hD hS hA [0, 1] rfl
        refine va_callv (va_runV (As := [.int (nI n)]) (rest := []) ⟨hx, hb, hml, hown, hw⟩ (cb_M_lay l dC dI cB cI cJ H.size h g0 g1 g2 g3 g4 g6 g12 g13 g14 g16 g23 g25 g26 g27 g28 g31 g32 g5 g7 g8 g9 g10 g11 g15 g17 g18 g19 g20 g21 g22 g24 g29 f bs hH (nI n) (by have := encUf_pos (k + 1) n; omega)) (kw_V 1 hw qq_735 qq_5 qq_738 qq_737 qs_M_lay rfl rfl (by decide +kernel) ⟨Nat.le_of_ble_eq_true rfl, Nat.le_of_ble_eq_true rfl⟩) ⟨fun a U g mk q => by obtain ⟨q0, q1, qP, qK, qD⟩ := q; exact ⟨q0, q1, qP, va_K.moved (u := U) (U := U.calling g mk a) (Vm.Alike.refl U.vm) qK, qD⟩, va_recv hK hPc (ci := 1) (q0 := 0) rfl rfl, fun U hU hW => ⟨rfl, by rw [hU], by rw [hU]; exact hPc, va_K.moved hW.alike hK, hDc.weaken (fun _ _ _ _ => trivial)⟩⟩ rfl rfl hl.1 rfl (lv_room (Nat.le_of_ble_eq_true rfl)) dd_M_layU_32 ⟨by first | exact Nat.le_of_ble_eq_true rfl | (simp only [headSpec]; omega), by first | exact Nat.le_of_ble_eq_true rfl | (simp only [headSpec]; omega)⟩) hS (fun q _ h => hFc q h) hFc (fun f_8 t H1 locs ht hvm hq_9 hB hz1 hk1 hS => ?_)
        obtain ⟨hP1, hK1, hD1⟩ := hB
        rw [ht] at hP1
        obtain ⟨hP, hD⟩ := va_join (wr := []) (w1 := [(h, .inr (1, [.int g0, .int g1, .int g2, .int g3, .int g4, .ref g5, .int g6, .ref g7, .ref g8, .ref g9, .ref g10, .ref g11, .int g12, .int g13, .int g14, .ref g15, .int g16, .ref g17, .ref g18, .ref g19, .ref g20, .ref g21, .ref g22, .int g23, .ref g24, .int g25, .int g26, .int g27, .int g28, .ref g29, .int (nI (bs.length + 1)), .int g31, .int g32])), (g29, .inl (cB, 1400, .inl f_8))]) hP hD [0, 1] [] rfl rfl (by decide) (by decide) hk1 hFc hP1 hD1
        clear hP1 hK1 hD1 ht hvm hz1 hk1 hPc hDc hFc
        generalize H1 = H at hP hS ⊢
        have hP : va_P (dC, dI) vcl [(h, .inr (1, [.int g0, .int g1, .int g2, .int g3, .int g4, .ref g5, .int g6, .ref g7, .ref g8, .ref g9, .ref g10, .ref g11, .int g12, .int g13, .int g14, .ref g15, .int g16, .ref g17, .ref g18, .ref g19, .ref g20, .ref g21, .ref g22, .int g23, .ref g24, .int g25, .int g26, .int g27, .int g28, .ref g29, .int (nI (bs.length + 1)), .int g31, .int g32])), (g29, .inl (cB, 1400, .inl f_8))] H := hP
        have hD : va_D A [(h, .inr (1, [.int g0, .int g1, .int g2, .int g3, .int g4, .ref g5, .int g6, .ref g7, .ref g8, .ref g9, .ref g10, .ref g11, .int g12, .int g13, .int g14, .ref g15, .int g16, .ref g17, .ref g18, .ref g19, .ref g20, .ref g21, .ref g22, .int g23, .ref g24, .int g25, .int g26, .int g27, .int g28, .ref g29, .int (nI (bs.length + 1)), .int g31, .int g32])), (g29, .inl (cB, 1400, .inl f_8))] := hD
        have hq_9 : Hd (bs ++ [nI n]) f_8 := by rw [nI_255 (by omega)] at hq_9; exact hq_9
        have e_10 : nI (bs.length + 1) = nI (bs ++ [nI n]).length := (by rw [List.length_append]; rfl)
        have hP : va_P (dC, dI) vcl [(h, .inr (1, [.int g0, .int g1, .int g2, .int g3, .int g4, .ref g5, .int g6, .ref g7, .ref g8, .ref g9, .ref g10, .ref g11, .int g12, .int g13, .int g14, .ref g15, .int g16, .ref g17, .ref g18, .ref g19, .ref g20, .ref g21, .ref g22, .int g23, .ref g24, .int g25, .int g26, .int g27, .int g28, .ref g29, .int (nI (bs ++ [nI n]).length), .int g31, .int g32])), (g29, .inl (cB, 1400, .inl f_8))] H := by rw [← e_10]; exact hP
        have hD : va_D A [(h, .inr (1, [.int g0, .int g1, .int g2, .int g3, .int g4, .ref g5, .int g6, .ref g7, .ref g8, .ref g9, .ref g10, .ref g11, .int g12, .int g13, .int g14, .ref g15, .int g16, .ref g17, .ref g18, .ref g19, .ref g20, .ref g21, .ref g22, .int g23, .ref g24, .int g25, .int g26, .int g27, .int g28, .ref g29, .int (nI (bs ++ [nI n]).length), .int g31, .int g32])), (g29, .inl (cB, 1400, .inl f_8))] := by rw [← e_10]; exact hD
        have hfin : bs ++ [nI n] = bs0 ++ encUf 4 n0 := by rw [hU, encUf, if_pos hlt]
        have e_11 : nI (bs ++ [nI n]).length = nI (bs0 ++ encUf 4 n0).length := (by rw [hfin])
        have hP : va_P (dC, dI) vcl [(h, .inr (1, [.int g0, .int g1, .int g2, .int g3, .int g4, .ref g5, .int g6, .ref g7, .ref g8, .ref g9, .ref g10, .ref g11, .int g12, .int g13, .int g14, .ref g15, .int g16, .ref g17, .ref g18, .ref g19, .ref g20, .ref g21, .ref g22, .int g23, .ref g24, .int g25, .int g26, .int g27, .int g28, .ref g29, .int (nI (bs0 ++ encUf 4 n0).length), .int g31, .int g32])), (g29, .inl (cB, 1400, .inl f_8))] H := by rw [← e_11]; exact hP
        have hD : va_D A [(h, .inr (1, [.int g0, .int g1, .int g2, .int g3, .int g4, .ref g5, .int g6, .ref g7, .ref g8, .ref g9, .ref g10, .ref g11, .int g12, .int g13, .int g14, .ref g15, .int g16, .ref g17, .ref g18, .ref g19, .ref g20, .ref g21, .ref g22, .int g23, .ref g24, .int g25, .int g26, .int g27, .int g28, .ref g29, .int (nI (bs0 ++ encUf 4 n0).length), .int g31, .int g32])), (g29, .inl (cB, 1400, .inl f_8))] := by rw [← e_11]; exact hD
        have hP9 := hP.sub (ws' := [(h, .inr (1, [.int g0, .int g1, .int g2, .int g3, .int g4, .ref g5, .int g6, .ref g7, .ref g8, .ref g9, .ref g10, .ref g11, .int g12, .int g13, .int g14, .ref g15, .int g16, .ref g17, .ref g18, .ref g19, .ref g20, .ref g21, .ref g22, .int g23, .ref g24, .int g25, .int g26, .int g27, .int g28, .ref g29, .int (nI (bs0 ++ encUf 4 n0).length), .int g31, .int g32])), (g29, .inl (cB, 1400, .inl f_8))]) [0, 1] rfl
        have hD9 := hD.sub (ws' := [(h, .inr (1, [.int g0, .int g1, .int g2, .int g3, .int g4, .ref g5, .int g6, .ref g7, .ref g8, .ref g9, .ref g10, .ref g11, .int g12, .int g13, .int g14, .ref g15, .int g16, .ref g17, .ref g18, .ref g19, .ref g20, .ref g21, .ref g22, .int g23, .ref g24, .int g25, .int g26, .int g27, .int g28, .ref g29, .int (nI (bs0 ++ encUf 4 n0).length), .int g31, .int g32])), (g29, .inl (cB, 1400, .inl f_8))]) [0, 1] (by decide) rfl
        refine W.widen (k := 0) (n := 0) (by first | exact Nat.le_refl _ | omega) (by first | exact Nat.le_refl _ | omega) ?_
        exact W.vret hx hb hr (fun t ht hW => ⟨⟨f_8, rfl, (by rw [← hfin]; exact hq_9), by rw [ht]; exact hP9, va_K.moved hW.alike hK, hD9⟩, hS.F ht⟩) hS.2.2 dd_M_layU_35
      · have hge : ¬ n < 128 := fun z => c_7 ((nI_127 (by omega)).mpr z)
        refine lv_aload_n hx hb dd_M_layU_8 rfl (lv_at hl 0 rfl) ?_
        refine lv_sipush (v := 128) hx hb dd_M_layU_9 (by decide) ?_
        refine lv_iload_n hx hb dd_M_layU_12 rfl (lv_at hl 2 rfl) ?_
        refine lv_sipush (v := 128) hx hb dd_M_layU_13 (by decide) ?_
        refine lv_irem hx hb dd_M_layU_16 (by decide) ?_
        refine lv_topi (fun z_12 hz_12 => ?_)
        obtain rfl : z_12 = nI (n % 128) := hz_12.trans (pk_rem (by omega) (by decide) (by decide))
        refine lv_iadd hx hb dd_M_layU_17 ?_
        refine lv_topi (fun z_13 hz_13 => ?_)
        obtain rfl : z_13 = nI (128 + n % 128) := hz_13.trans (nI_add 128 (n % 128))
        have hPc := hP.sub (ws' := [(h, .inr (1, [.int g0, .int g1, .int g2, .int g3, .int g4, .ref g5, .int g6, .ref g7, .ref g8, .ref g9, .ref g10, .ref g11, .int g12, .int g13, .int g14, .ref g15, .int g16, .ref g17, .ref g18, .ref g19, .ref g20, .ref g21, .ref g22, .int g23, .ref g24, .int g25, .int g26, .int g27, .int g28, .ref g29, .int (nI bs.length), .int g31, .int g32])), (g29, .inl (cB, 1400, .inl f))]) [0, 1] rfl
        have hDc := hD.sub (ws' := [(h, .inr (1, [.int g0, .int g1, .int g2, .int g3, .int g4, .ref g5, .int g6, .ref g7, .ref g8, .ref g9, .ref g10, .ref g11, .int g12, .int g13, .int g14, .ref g15, .int g16, .ref g17, .ref g18, .ref g19, .ref g20, .ref g21, .ref g22, .int g23, .ref g24, .int g25, .int g26, .int g27, .int g28, .ref g29, .int (nI bs.length), .int g31, .int g32])), (g29, .inl (cB, 1400, .inl f))]) [0, 1] (by decide) rfl
        have hFc := va_free (wc := [(h, .inr (1, [.int g0, .int g1, .int g2, .int g3, .int g4, .ref g5, .int g6, .ref g7, .ref g8, .ref g9, .ref g10, .ref g11, .int g12, .int g13, .int g14, .ref g15, .int g16, .ref g17, .ref g18, .ref g19, .ref g20, .ref g21, .ref g22, .int g23, .ref g24, .int g25, .int g26, .int g27, .int g28, .ref g29, .int (nI bs.length), .int g31, .int g32])), (g29, .inl (cB, 1400, .inl f))]) hD hS hA [0, 1] rfl
        refine va_callv (va_runV (As := [.int (nI (128 + n % 128))]) (rest := []) ⟨hx, hb, hml, hown, hw⟩ (cb_M_lay l dC dI cB cI cJ H.size h g0 g1 g2 g3 g4 g6 g12 g13 g14 g16 g23 g25 g26 g27 g28 g31 g32 g5 g7 g8 g9 g10 g11 g15 g17 g18 g19 g20 g21 g22 g24 g29 f bs hH (nI (128 + n % 128)) (by have := encUf_pos (k + 1) n; omega)) (kw_V 1 hw qq_735 qq_5 qq_738 qq_737 qs_M_lay rfl rfl (by decide +kernel) ⟨Nat.le_of_ble_eq_true rfl, Nat.le_of_ble_eq_true rfl⟩) ⟨fun a U g mk q => by obtain ⟨q0, q1, qP, qK, qD⟩ := q; exact ⟨q0, q1, qP, va_K.moved (u := U) (U := U.calling g mk a) (Vm.Alike.refl U.vm) qK, qD⟩, va_recv hK hPc (ci := 1) (q0 := 0) rfl rfl, fun U hU hW => ⟨rfl, by rw [hU], by rw [hU]; exact hPc, va_K.moved hW.alike hK, hDc.weaken (fun _ _ _ _ => trivial)⟩⟩ rfl rfl hl.1 rfl (lv_room (Nat.le_of_ble_eq_true rfl)) dd_M_layU_18 ⟨by first | exact Nat.le_of_ble_eq_true rfl | (simp only [headSpec]; omega), by first | exact Nat.le_of_ble_eq_true rfl | (simp only [headSpec]; omega)⟩) hS (fun q _ h => hFc q h) hFc (fun f_14 t H1 locs ht hvm hq_15 hB hz1 hk1 hS => ?_)
        obtain ⟨hP1, hK1, hD1⟩ := hB
        rw [ht] at hP1
        obtain ⟨hP, hD⟩ := va_join (wr := []) (w1 := [(h, .inr (1, [.int g0, .int g1, .int g2, .int g3, .int g4, .ref g5, .int g6, .ref g7, .ref g8, .ref g9, .ref g10, .ref g11, .int g12, .int g13, .int g14, .ref g15, .int g16, .ref g17, .ref g18, .ref g19, .ref g20, .ref g21, .ref g22, .int g23, .ref g24, .int g25, .int g26, .int g27, .int g28, .ref g29, .int (nI (bs.length + 1)), .int g31, .int g32])), (g29, .inl (cB, 1400, .inl f_14))]) hP hD [0, 1] [] rfl rfl (by decide) (by decide) hk1 hFc hP1 hD1
        clear hP1 hK1 hD1 ht hvm hz1 hk1 hPc hDc hFc
        generalize H1 = H at hP hS ⊢
        have hP : va_P (dC, dI) vcl [(h, .inr (1, [.int g0, .int g1, .int g2, .int g3, .int g4, .ref g5, .int g6, .ref g7, .ref g8, .ref g9, .ref g10, .ref g11, .int g12, .int g13, .int g14, .ref g15, .int g16, .ref g17, .ref g18, .ref g19, .ref g20, .ref g21, .ref g22, .int g23, .ref g24, .int g25, .int g26, .int g27, .int g28, .ref g29, .int (nI (bs.length + 1)), .int g31, .int g32])), (g29, .inl (cB, 1400, .inl f_14))] H := hP
        have hD : va_D A [(h, .inr (1, [.int g0, .int g1, .int g2, .int g3, .int g4, .ref g5, .int g6, .ref g7, .ref g8, .ref g9, .ref g10, .ref g11, .int g12, .int g13, .int g14, .ref g15, .int g16, .ref g17, .ref g18, .ref g19, .ref g20, .ref g21, .ref g22, .int g23, .ref g24, .int g25, .int g26, .int g27, .int g28, .ref g29, .int (nI (bs.length + 1)), .int g31, .int g32])), (g29, .inl (cB, 1400, .inl f_14))] := hD
        have hq_15 : Hd (bs ++ [nI (128 + n % 128)]) f_14 := by rw [nI_255 (by omega)] at hq_15; exact hq_15
        have e_16 : nI (bs.length + 1) = nI (bs ++ [nI (128 + n % 128)]).length := (by rw [List.length_append]; rfl)
        have hP : va_P (dC, dI) vcl [(h, .inr (1, [.int g0, .int g1, .int g2, .int g3, .int g4, .ref g5, .int g6, .ref g7, .ref g8, .ref g9, .ref g10, .ref g11, .int g12, .int g13, .int g14, .ref g15, .int g16, .ref g17, .ref g18, .ref g19, .ref g20, .ref g21, .ref g22, .int g23, .ref g24, .int g25, .int g26, .int g27, .int g28, .ref g29, .int (nI (bs ++ [nI (128 + n % 128)]).length), .int g31, .int g32])), (g29, .inl (cB, 1400, .inl f_14))] H := by rw [← e_16]; exact hP
        have hD : va_D A [(h, .inr (1, [.int g0, .int g1, .int g2, .int g3, .int g4, .ref g5, .int g6, .ref g7, .ref g8, .ref g9, .ref g10, .ref g11, .int g12, .int g13, .int g14, .ref g15, .int g16, .ref g17, .ref g18, .ref g19, .ref g20, .ref g21, .ref g22, .int g23, .ref g24, .int g25, .int g26, .int g27, .int g28, .ref g29, .int (nI (bs ++ [nI (128 + n % 128)]).length), .int g31, .int g32])), (g29, .inl (cB, 1400, .inl f_14))] := by rw [← e_16]; exact hD
        refine lv_iload_n hx hb dd_M_layU_21 rfl (lv_at hl 2 rfl) ?_
        refine lv_sipush (v := 128) hx hb dd_M_layU_22 (by decide) ?_
        refine lv_idiv hx hb dd_M_layU_25 (by decide) ?_
        refine lv_topi (fun z_17 hz_17 => ?_)
        obtain rfl : z_17 = nI (n / 128) := hz_17.trans (pk_div (by omega) (by decide) (by decide))
        refine lv_istore_n (lv' := [(2, .int (nI (n / 128))), (0, .ref h), (1, .int (nI n0))]) hx hb dd_M_layU_26 rfl hl (by decide) rfl (fun ls hl => ?_)
        refine lv_goto (tgt := 2) hx hb dd_M_layU_27 (by decide) ?_
        exact ih (n / 128) (bs ++ [nI (128 + n % 128)]) f_14 hq_15 (by omega) (by omega) (by rw [hU, encUf, if_neg (by omega), List.append_assoc]; rfl) (by rw [encUf, if_neg hge] at hRm; simp only [List.length_append, List.length_cons, List.length_nil] at hRm ⊢; omega) _ _ hP hD hS _ (lv_sub hl [1, 2, 0] rfl)
  exact lp_1 4 n0 bs0 f0 hH (by omega) (by omega) rfl hRm _ _ hP hD hS _ (lv_sub hl [1, 2, 0] rfl)

set_option maxHeartbeats 4000000 in
set_option maxRecDepth 100000 in
/-- layS(v) -/
theorem cb_M_layS (l : Launch) (dC : Nat → ClassId) (dI : Nat → Nat → Nat) (cB cI cJ : ClassId) (sz : Nat) (h : Nat) (g0 g1 g2 g3 g4 g6 g12 g13 g14 g16 g23 g25 g26 g27 g28 g31 g32 : Int32) (g5 g7 g8 g9 g10 g11 g15 g17 g18 g19 g20 g21 g22 g24 g29 : Nat) (f0 : Nat → Int32) (bs0 : List Int32) (hH : Hd bs0 f0) (p0 : Int32) (hRm : bs0.length + (encSf 4 p0).length ≤ 1400) : Met l yy_M_layS (Cond.code yy_M_layS cc_M_layS 3 none :: gw) { frames := 1, cells := 0, slots := 0, locals := 21 } (va_Pc [.ref h, .int p0] (ks_pre dC dI [(cB, .byte), (cI, .int), (cJ, .long)] [(h, .inr (1, [.int g0, .int g1, .int g2, .int g3, .int g4, .ref g5, .int g6, .ref g7, .ref g8, .ref g9, .ref g10, .ref g11, .int g12, .int g13, .int g14, .ref g15, .int g16, .ref g17, .ref g18, .ref g19, .ref g20, .ref g21, .ref g22, .int g23, .ref g24, .int g25, .int g26, .int g27, .int g28, .ref g29, .int (nI bs0.length), .int g31, .int g32])), (g29, .inl (cB, 1400, .inl f0))] sz)) (va_Qv (fun (u : Nat → Int32) => Hd (bs0 ++ encSf 4 p0) u) (fun (u : Nat → Int32) => ks_post dC dI [(cB, .byte), (cI, .int), (cJ, .long)] (va_A [(h, .inr (1, [.int g0, .int g1, .int g2, .int g3, .int g4, .ref g5, .int g6, .ref g7, .ref g8, .ref g9, .ref g10, .ref g11, .int g12, .int g13, .int g14, .ref g15, .int g16, .ref g17, .ref g18, .ref g19, .ref g20, .ref g21, .ref g22, .int g23, .ref g24, .int g25, .int g26, .int g27, .int g28, .ref g29, .int (nI bs0.length), .int g31, .int g32])), (g29, .inl (cB, 1400, .inl f0))] sz) [(h, .inr (1, [.int g0, .int g1, .int g2, .int g3, .int g4, .ref g5, .int g6, .ref g7, .ref g8, .ref g9, .ref g10, .ref g11, .int g12, .int g13, .int g14, .ref g15, .int g16, .ref g17, .ref g18, .ref g19, .ref g20, .ref g21, .ref g22, .int g23, .ref g24, .int g25, .int g26, .int g27, .int g28, .ref g29, .int (nI (bs0 ++ encSf 4 p0).length), .int g31, .int g32])), (g29, .inl (cB, 1400, .inl u))]) (va_A [(h, .inr (1, [.int g0, .int g1, .int g2, .int g3, .int g4, .ref g5, .int g6, .ref g7, .ref g8, .ref g9, .ref g10, .ref g11, .int g12, .int g13, .int g14, .ref g15, .int g16, .ref g17, .ref g18, .ref g19, .ref g20, .ref g21, .ref g22, .int g23, .ref g24, .int g25, .int g26, .int g27, .int g28, .ref g29, .int (nI bs0.length), .int g31, .int g32])), (g29, .inl (cB, 1400, .inl f0))] sz)) 0 0 (va_A [(h, .inr (1, [.int g0, .int g1, .int g2, .int g3, .int g4, .ref g5, .int g6, .ref g7, .ref g8, .ref g9, .ref g10, .ref g11, .int g12, .int g13, .int g14, .ref g15, .int g16, .ref g17, .ref g18, .ref g19, .ref g20, .ref g21, .ref g22, .int g23, .ref g24, .int g25, .int g26, .int g27, .int g28, .ref g29, .int (nI bs0.length), .int g31, .int g32])), (g29, .inl (cB, 1400, .inl f0))] sz) := by
  refine Met.ofW (cc := cc_M_layS) (maxL := 3) (ret := none) (by decide) rfl ?_
  intro p e s m args below meth c s₁ B hml hv
  obtain ⟨rfl, hsz, hP, hK, hD0⟩ := hv
  have hx := B.exec
  have hb := B.bytes
  have hr := B.returns
  have hw : ∀ w ∈ gw, w.before _ s = true := fun w h => atoms_spec (ws := (Cond.code yy_M_layS cc_M_layS 3 none :: gw)) B.pre w (List.mem_cons_of_mem _ h)
  have hown : s.vm.findClass RR_M = some m.cls := findClass_of_methodNamed B.named
  have hlocks := B.notSynchronized
  subst hsz
  have hD := hD0.self (sz := s.heap.size)
  generalize hAe : va_A [(h, .inr (1, [.int g0, .int g1, .int g2, .int g3, .int g4, .ref g5, .int g6, .ref g7, .ref g8, .ref g9, .ref g10, .ref g11, .int g12, .int g13, .int g14, .ref g15, .int g16, .ref g17, .ref g18, .ref g19, .ref g20, .ref g21, .ref g22, .int g23, .ref g24, .int g25, .int g26, .int g27, .int g28, .ref g29, .int (nI bs0.length), .int g31, .int g32])), (g29, .inl (cB, 1400, .inl f0))] s.heap.size = A at hD ⊢
  have hA : ∀ q : Nat, s.heap.size ≤ q → A q := fun q h => by rw [← hAe]; exact Or.inr h
  have hS : va_S A s.heap s.heap [] := va_S.rf
  have hP : va_P (dC, dI) vcl [(h, .inr (1, [.int g0, .int g1, .int g2, .int g3, .int g4, .ref g5, .int g6, .ref g7, .ref g8, .ref g9, .ref g10, .ref g11, .int g12, .int g13, .int g14, .ref g15, .int g16, .ref g17, .ref g18, .ref g19, .ref g20, .ref g21, .ref g22, .int g23, .ref g24, .int g25, .int g26, .int g27, .int g28, .ref g29, .int (nI bs0.length), .int g31, .int g32])), (g29, .inl (cB, 1400, .inl f0))] s.heap := hP
  have hl := lv_entry ([.ref h, .int p0]) (n := 3) (Nat.le_of_ble_eq_true rfl)
  rw [lg_entry_eq]
  generalize (lg_sl ([.ref h, .int p0]) ++ List.replicate (3 - (lg_sl ([.ref h, .int p0])).length) Slot.unset).toArray = ls at hl ⊢
  have hl : lv_has ls 3 [(0, .ref h), (1, .int p0)] := hl
  refine lv_iload_n hx hb dd_M_layS_0 rfl (lv_at hl 1 rfl) ?_
  refine lv_istore_n (lv' := [(2, .int p0), (0, .ref h), (1, .int p0)]) hx hb dd_M_layS_1 rfl hl (by decide) rfl (fun ls hl => ?_)
  have lp_1 : ∀ (k : Nat) (v : Int32) (bs : List Int32) (f : Nat → Int32), Hd bs f → inS k v → bs0 ++ encSf 4 p0 = bs ++ encSf k v → bs.length + (encSf k v).length ≤ 1400 → ∀ (H : Heap) (locs : List Loc), va_P (dC, dI) vcl [(h, .inr (1, [.int g0, .int g1, .int g2, .int g3, .int g4, .ref g5, .int g6, .ref g7, .ref g8, .ref g9, .ref g10, .ref g11, .int g12, .int g13, .int g14, .ref g15, .int g16, .ref g17, .ref g18, .ref g19, .ref g20, .ref g21, .ref g22, .int g23, .ref g24, .int g25, .int g26, .int g27, .int g28, .ref g29, .int (nI bs.length), .int g31, .int g32])), (g29, .inl (cB, 1400, .inl f))] H → va_D A [(h, .inr (1, [.int g0, .int g1, .int g2, .int g3, .int g4, .ref g5, .int g6, .ref g7, .ref g8, .ref g9, .ref g10, .ref g11, .int g12, .int g13, .int g14, .ref g15, .int g16, .ref g17, .ref g18, .ref g19, .ref g20, .ref g21, .ref g22, .int g23, .ref g24, .int g25, .int g26, .int g27, .int g28, .ref g29, .int (nI bs.length), .int g31, .int g32])), (g29, .inl (cB, 1400, .inl f))] → va_S A s.heap H locs → ∀ ls : Array Slot, lv_has ls 3 [(0, .ref h), (1, .int p0), (2, .int v)] → W p l e (headSpec (Cond.code yy_M_layS cc_M_layS 3 none :: gw) { frames := 1, cells := 0, slots := 0, locals := 21 }).room s m ([.ref h, .int p0] : List Value).toArray below meth c H locs 0 0 (MQ below (va_Qv (fun (u : Nat → Int32) => Hd (bs0 ++ encSf 4 p0) u) (fun (u : Nat → Int32) => ks_post dC dI [(cB, .byte), (cI, .int), (cJ, .long)] A [(h, .inr (1, [.int g0, .int g1, .int g2, .int g3, .int g4, .ref g5, .int g6, .ref g7, .ref g8, .ref g9, .ref g10, .ref g11, .int g12, .int g13, .int g14, .ref g15, .int g16, .ref g17, .ref g18, .ref g19, .ref g20, .ref g21, .ref g22, .int g23, .ref g24, .int g25, .int g26, .int g27, .int g28, .ref g29, .int (nI (bs0 ++ encSf 4 p0).length), .int g31, .int g32])), (g29, .inl (cB, 1400, .inl u))]) A) ([.ref h, .int p0] : List Value).toArray s 0 0 A) (F0 m 2 ls []) := by
    intro k
    induction k with
    | zero =>
      intro v bs f hH hk hU hRm H locs hP hD hS ls hl
      refine lv_iload_n hx hb dd_M_layS_2 rfl (lv_at hl 2 rfl) ?_
      refine lv_bipush (v := -64) hx hb dd_M_layS_3 (by decide) ?_
      refine lv_icmp_lt (tgt := 14) hx hb dd_M_layS_5 (by decide) (fun c_2 => ?_) (fun c_2 => ?_)
      · exact absurd (Or.inl c_2) (inS_0 hk)
      · have hc1 := c_2
        refine lv_iload_n hx hb dd_M_layS_8 rfl (lv_at hl 2 rfl) ?_
        refine lv_bipush (v := 63) hx hb dd_M_layS_9 (by decide) ?_
        refine lv_icmp_le (tgt := 34) hx hb dd_M_layS_11 (by decide) (fun c_3 => ?_) (fun c_3 => ?_)
        · have hc : ¬ (v < -64 ∨ 63 < v) := fun z => z.elim hc1 (fun z => absurd c_3 (Int32.not_le.mpr z))
          refine lv_aload_n hx hb dd_M_layS_34 rfl (lv_at hl 0 rfl) ?_
          refine lv_iload_n hx hb dd_M_layS_35 rfl (lv_at hl 2 rfl) ?_
          refine lv_bipush (v := 127) hx hb dd_M_layS_36 (by decide) ?_
          refine lv_iand hx hb dd_M_layS_38 ?_
          have hPc := hP.sub (ws' := [(h, .inr (1, [.int g0, .int g1, .int g2, .int g3, .int g4, .ref g5, .int g6, .ref g7, .ref g8, .ref g9, .ref g10, .ref g11, .int g12, .int g13, .int g14, .ref g15, .int g16, .ref g17, .ref g18, .ref g19, .ref g20, .ref g21, .ref g22, .int g23, .ref g24, .int g25, .int g26, .int g27, .int g28, .ref g29, .int (nI bs.length), .int g31, .int g32])), (g29, .inl (cB, 1400, .inl f))]) [0, 1] rfl
          have hDc := hD.sub (ws' := [(h, .inr (1, [.int g0, .int g1, .int g2, .int g3, .int g4, .ref g5, .int g6, .ref g7, .ref g8, .ref g9, .ref g10, .ref g11, .int g12, .int g13, .int g14, .ref g15, .int g16, .ref g17, .ref g18, .ref g19, .ref g20, .ref g21, .ref g22, .int g23, .ref g24, .int g25, .int g26, .int g27, .int g28, .ref g29, .int (nI bs.length), .int g31, .int g32])), (g29, .inl (cB, 1400, .inl f))]) [0, 1] (by decide) rfl
          have hFc := va_free (wc := [(h, .inr (1, [.int g0, .int g1, .int g2, .int g3, .int g4, .ref g5, .int g6, .ref g7, .ref g8, .ref g9, .ref g10, .ref g11, .int g12, .int g13, .int g14, .ref g15, .int g16, .ref g17, .ref g18, .ref g19, .ref g20, .ref g21, .ref g22, .int g23, .ref g24, .int g25, .int g26, .int g27, .int g28, .ref g29, .int (nI bs.length), .int g31, .int g32])), (g29, .inl (cB, 1400, .inl f))]) hD hS hA [0, 1] rfl
          refine va_callv (va_runV (As := [.int (v &&& 127)]) (rest := []) ⟨hx, hb, hml, hown, hw⟩ (cb_M_lay l dC dI cB cI cJ H.size h g0 g1 g2 g3 g4 g6 g12 g13 g14 g16 g23 g25 g26 g27 g28 g31 g32 g5 g7 g8 g9 g10 g11 g15 g17 g18 g19 g20 g21 g22 g24 g29 f bs hH (v &&& 127) (by have := encSf_pos 0 v; omega)) (kw_V 1 hw qq_735 qq_5 qq_738 qq_737 qs_M_lay rfl rfl (by decide +kernel) ⟨Nat.le_of_ble_eq_true rfl, Nat.le_of_ble_eq_true rfl⟩) ⟨fun a U g mk q => by obtain ⟨q0, q1, qP, qK, qD⟩ := q; exact ⟨q0, q1, qP, va_K.moved (u := U) (U := U.calling g mk a) (Vm.Alike.refl U.vm) qK, qD⟩, va_recv hK hPc (ci := 1) (q0 := 0) rfl rfl, fun U hU hW => ⟨rfl, by rw [hU], by rw [hU]; exact hPc, va_K.moved hW.alike hK, hDc.weaken (fun _ _ _ _ => trivial)⟩⟩ rfl rfl hl.1 rfl (lv_room (Nat.le_of_ble_eq_true rfl)) dd_M_layS_39 ⟨by first | exact Nat.le_of_ble_eq_true rfl | (simp only [headSpec]; omega), by first | exact Nat.le_of_ble_eq_true rfl | (simp only [headSpec]; omega)⟩) hS (fun q _ h => hFc q h) hFc (fun f_4 t H1 locs ht hvm hq_5 hB hz1 hk1 hS => ?_)
          obtain ⟨hP1, hK1, hD1⟩ := hB
          rw [ht] at hP1
          obtain ⟨hP, hD⟩ := va_join (wr := []) (w1 := [(h, .inr (1, [.int g0, .int g1, .int g2, .int g3, .int g4, .ref g5, .int g6, .ref g7, .ref g8, .ref g9, .ref g10, .ref g11, .int g12, .int g13, .int g14, .ref g15, .int g16, .ref g17, .ref g18, .ref g19, .ref g20, .ref g21, .ref g22, .int g23, .ref g24, .int g25, .int g26, .int g27, .int g28, .ref g29, .int (nI (bs.length + 1)), .int g31, .int g32])), (g29, .inl (cB, 1400, .inl f_4))]) hP hD [0, 1] [] rfl rfl (by decide) (by decide) hk1 hFc hP1 hD1
          clear hP1 hK1 hD1 ht hvm hz1 hk1 hPc hDc hFc
          generalize H1 = H at hP hS ⊢
          have hP : va_P (dC, dI) vcl [(h, .inr (1, [.int g0, .int g1, .int g2, .int g3, .int g4, .ref g5, .int g6, .ref g7, .ref g8, .ref g9, .ref g10, .ref g11, .int g12, .int g13, .int g14, .ref g15, .int g16, .ref g17, .ref g18, .ref g19, .ref g20, .ref g21, .ref g22, .int g23, .ref g24, .int g25, .int g26, .int g27, .int g28, .ref g29, .int (nI (bs.length + 1)), .int g31, .int g32])), (g29, .inl (cB, 1400, .inl f_4))] H := hP
          have hD : va_D A [(h, .inr (1, [.int g0, .int g1, .int g2, .int g3, .int g4, .ref g5, .int g6, .ref g7, .ref g8, .ref g9, .ref g10, .ref g11, .int g12, .int g13, .int g14, .ref g15, .int g16, .ref g17, .ref g18, .ref g19, .ref g20, .ref g21, .ref g22, .int g23, .ref g24, .int g25, .int g26, .int g27, .int g28, .ref g29, .int (nI (bs.length + 1)), .int g31, .int g32])), (g29, .inl (cB, 1400, .inl f_4))] := hD
          have hq_5 : Hd (bs ++ [(v &&& 127) &&& 255]) f_4 := by exact hq_5
          have e_6 : nI (bs.length + 1) = nI (bs ++ [(v &&& 127) &&& 255]).length := (by rw [List.length_append]; rfl)
          have hP : va_P (dC, dI) vcl [(h, .inr (1, [.int g0, .int g1, .int g2, .int g3, .int g4, .ref g5, .int g6, .ref g7, .ref g8, .ref g9, .ref g10, .ref g11, .int g12, .int g13, .int g14, .ref g15, .int g16, .ref g17, .ref g18, .ref g19, .ref g20, .ref g21, .ref g22, .int g23, .ref g24, .int g25, .int g26, .int g27, .int g28, .ref g29, .int (nI (bs ++ [(v &&& 127) &&& 255]).length), .int g31, .int g32])), (g29, .inl (cB, 1400, .inl f_4))] H := by rw [← e_6]; exact hP
          have hD : va_D A [(h, .inr (1, [.int g0, .int g1, .int g2, .int g3, .int g4, .ref g5, .int g6, .ref g7, .ref g8, .ref g9, .ref g10, .ref g11, .int g12, .int g13, .int g14, .ref g15, .int g16, .ref g17, .ref g18, .ref g19, .ref g20, .ref g21, .ref g22, .int g23, .ref g24, .int g25, .int g26, .int g27, .int g28, .ref g29, .int (nI (bs ++ [(v &&& 127) &&& 255]).length), .int g31, .int g32])), (g29, .inl (cB, 1400, .inl f_4))] := by rw [← e_6]; exact hD
          have hfin : bs ++ [(v &&& 127) &&& 255] = bs0 ++ encSf 4 p0 := by rw [hU, encSf]
          have e_7 : nI (bs ++ [(v &&& 127) &&& 255]).length = nI (bs0 ++ encSf 4 p0).length := (by rw [hfin])
          have hP : va_P (dC, dI) vcl [(h, .inr (1, [.int g0, .int g1, .int g2, .int g3, .int g4, .ref g5, .int g6, .ref g7, .ref g8, .ref g9, .ref g10, .ref g11, .int g12, .int g13, .int g14, .ref g15, .int g16, .ref g17, .ref g18, .ref g19, .ref g20, .ref g21, .ref g22, .int g23, .ref g24, .int g25, .int g26, .int g27, .int g28, .ref g29, .int (nI (bs0 ++ encSf 4 p0).length), .int g31, .int g32])), (g29, .inl (cB, 1400, .inl f_4))] H := by rw [← e_7]; exact hP
          have hD : va_D A [(h, .inr (1, [.int g0, .int g1, .int g2, .int g3, .int g4, .ref g5, .int g6, .ref g7, .ref g8, .ref g9, .ref g10, .ref g11, .int g12, .int g13, .int g14, .ref g15, .int g16, .ref g17, .ref g18, .ref g19, .ref g20, .ref g21, .ref g22, .int g23, .ref g24, .int g25, .int g26, .int g27, .int g28, .ref g29, .int (nI (bs0 ++ encSf 4 p0).length), .int g31, .int g32])), (g29, .inl (cB, 1400, .inl f_4))] := by rw [← e_7]; exact hD
          have hP9 := hP.sub (ws' := [(h, .inr (1, [.int g0, .int g1, .int g2, .int g3, .int g4, .ref g5, .int g6, .ref g7, .ref g8, .ref g9, .ref g10, .ref g11, .int g12, .int g13, .int g14, .ref g15, .int g16, .ref g17, .ref g18, .ref g19, .ref g20, .ref g21, .ref g22, .int g23, .ref g24, .int g25, .int g26, .int g27, .int g28, .ref g29, .int (nI (bs0 ++ encSf 4 p0).length), .int g31, .int g32])), (g29, .inl (cB, 1400, .inl f_4))]) [0, 1] rfl
          have hD9 := hD.sub (ws' := [(h, .inr (1, [.int g0, .int g1, .int g2, .int g3, .int g4, .ref g5, .int g6, .ref g7, .ref g8, .ref g9, .ref g10, .ref g11, .int g12, .int g13, .int g14, .ref g15, .int g16, .ref g17, .ref g18, .ref g19, .ref g20, .ref g21, .ref g22, .int g23, .ref g24, .int g25, .int g26, .int g27, .int g28, .ref g29, .int (nI (bs0 ++ encSf 4 p0).length), .int g31, .int g32])), (g29, .inl (cB, 1400, .inl f_4))]) [0, 1] (by decide) rfl
          refine W.widen (k := 0) (n := 0) (by first | exact Nat.le_refl _ | omega) (by first | exact Nat.le_refl _ | omega) ?_
          exact W.vret hx hb hr (fun t ht hW => ⟨⟨f_4, rfl, (by rw [← hfin]; exact hq_5), by rw [ht]; exact hP9, va_K.moved hW.alike hK, hD9⟩, hS.F ht⟩) hS.2.2 dd_M_layS_42
        · exact absurd (Or.inr (Int32.not_le.mp c_3)) (inS_0 hk)
    | succ k ih =>
      intro v bs f hH hk hU hRm H locs hP hD hS ls hl
      refine lv_iload_n hx hb dd_M_layS_2 rfl (lv_at hl 2 rfl) ?_
      refine lv_bipush (v := -64) hx hb dd_M_layS_3 (by decide) ?_
      refine lv_icmp_lt (tgt := 14) hx hb dd_M_layS_5 (by decide) (fun c_8 => ?_) (fun c_8 => ?_)
      · have hc : v < -64 ∨ 63 < v := by first | exact Or.inl c_8 | exact Or.inr (Int32.not_le.mp c_8)
        refine lv_aload_n hx hb dd_M_layS_14 rfl (lv_at hl 0 rfl) ?_
        refine lv_iload_n hx hb dd_M_layS_15 rfl (lv_at hl 2 rfl) ?_
        refine lv_bipush (v := 127) hx hb dd_M_layS_16 (by decide) ?_
        refine lv_iand hx hb dd_M_layS_18 ?_
        refine lv_sipush (v := 128) hx hb dd_M_layS_19 (by decide) ?_
        refine lv_ior hx hb dd_M_layS_22 ?_
        have hPc := hP.sub (ws' := [(h, .inr (1, [.int g0, .int g1, .int g2, .int g3, .int g4, .ref g5, .int g6, .ref g7, .ref g8, .ref g9, .ref g10, .ref g11, .int g12, .int g13, .int g14, .ref g15, .int g16, .ref g17, .ref g18, .ref g19, .ref g20, .ref g21, .ref g22, .int g23, .ref g24, .int g25, .int g26, .int g27, .int g28, .ref g29, .int (nI bs.length), .int g31, .int g32])), (g29, .inl (cB, 1400, .inl f))]) [0, 1] rfl
        have hDc := hD.sub (ws' := [(h, .inr (1, [.int g0, .int g1, .int g2, .int g3, .int g4, .ref g5, .int g6, .ref g7, .ref g8, .ref g9, .ref g10, .ref g11, .int g12, .int g13, .int g14, .ref g15, .int g16, .ref g17, .ref g18, .ref g19, .ref g20, .ref g21, .ref g22, .int g23, .ref g24, .int g25, .int g26, .int g27, .int g28, .ref g29, .int (nI bs.length), .int g31, .int g32])), (g29, .inl (cB, 1400, .inl f))]) [0, 1] (by decide) rfl
        have hFc := va_free (wc := [(h, .inr (1, [.int g0, .int g1, .int g2, .int g3, .int g4, .ref g5, .int g6, .ref g7, .ref g8, .ref g9, .ref g10, .ref g11, .int g12, .int g13, .int g14, .ref g15, .int g16, .ref g17, .ref g18, .ref g19, .ref g20, .ref g21, .ref g22, .int g23, .ref g24, .int g25, .int g26, .int g27, .int g28, .ref g29, .int (nI bs.length), .int g31, .int g32])), (g29, .inl (cB, 1400, .inl f))]) hD hS hA [0, 1] rfl
        refine va_callv (va_runV (As := [.int ((v &&& 127) ||| 128)]) (rest := []) ⟨hx, hb, hml, hown, hw⟩ (cb_M_lay l dC dI cB cI cJ H.size h g0 g1 g2 g3 g4 g6 g12 g13 g14 g16 g23 g25 g26 g27 g28 g31 g32 g5 g7 g8 g9 g10 g11 g15 g17 g18 g19 g20 g21 g22 g24 g29 f bs hH ((v &&& 127) ||| 128) (by have := encSf_pos (k + 1) v; omega)) (kw_V 1 hw qq_735 qq_5 qq_738 qq_737 qs_M_lay rfl rfl (by decide +kernel) ⟨Nat.le_of_ble_eq_true rfl, Nat.le_of_ble_eq_true rfl⟩) ⟨fun a U g mk q => by obtain ⟨q0, q1, qP, qK, qD⟩ := q; exact ⟨q0, q1, qP, va_K.moved (u := U) (U := U.calling g mk a) (Vm.Alike.refl U.vm) qK, qD⟩, va_recv hK hPc (ci := 1) (q0 := 0) rfl rfl, fun U hU hW => ⟨rfl, by rw [hU], by rw [hU]; exact hPc, va_K.moved hW.alike hK, hDc.weaken (fun _ _ _ _ => trivial)⟩⟩ rfl rfl hl.1 rfl (lv_room (Nat.le_of_ble_eq_true rfl)) dd_M_layS_23 ⟨by first | exact Nat.le_of_ble_eq_true rfl | (simp only [headSpec]; omega), by first | exact Nat.le_of_ble_eq_true rfl | (simp only [headSpec]; omega)⟩) hS (fun q _ h => hFc q h) hFc (fun f_9 t H1 locs ht hvm hq_10 hB hz1 hk1 hS => ?_)
        obtain ⟨hP1, hK1, hD1⟩ := hB
        rw [ht] at hP1
        obtain ⟨hP, hD⟩ := va_join (wr := []) (w1 := [(h, .inr (1, [.int g0, .int g1, .int g2, .int g3, .int g4, .ref g5, .int g6, .ref g7, .ref g8, .ref g9, .ref g10, .ref g11, .int g12, .int g13, .int g14, .ref g15, .int g16, .ref g17, .ref g18, .ref g19, .ref g20, .ref g21, .ref g22, .int g23, .ref g24, .int g25, .int g26, .int g27, .int g28, .ref g29, .int (nI (bs.length + 1)), .int g31, .int g32])), (g29, .inl (cB, 1400, .inl f_9))]) hP hD [0, 1] [] rfl rfl (by decide) (by decide) hk1 hFc hP1 hD1
        clear hP1 hK1 hD1 ht hvm hz1 hk1 hPc hDc hFc
        generalize H1 = H at hP hS ⊢
        have hP : va_P (dC, dI) vcl [(h, .inr (1, [.int g0, .int g1, .int g2, .int g3, .int g4, .ref g5, .int g6, .ref g7, .ref g8, .ref g9, .ref g10, .ref g11, .int g12, .int g13, .int g14, .ref g15, .int g16, .ref g17, .ref g18, .ref g19, .ref g20, .ref g21, .ref g22, .int g23, .ref g24, .int g25, .int g26, .int g27, .int g28, .ref g29, .int (nI (bs.length + 1)), .int g31, .int g32])), (g29, .inl (cB, 1400, .inl f_9))] H := hP
        have hD : va_D A [(h, .inr (1, [.int g0, .int g1, .int g2, .int g3, .int g4, .ref g5, .int g6, .ref g7, .ref g8, .ref g9, .ref g10, .ref g11, .int g12, .int g13, .int g14, .ref g15, .int g16, .ref g17, .ref g18, .ref g19, .ref g20, .ref g21, .ref g22, .int g23, .ref g24, .int g25, .int g26, .int g27, .int g28, .ref g29, .int (nI (bs.length + 1)), .int g31, .int g32])), (g29, .inl (cB, 1400, .inl f_9))] := hD
        have hq_10 : Hd (bs ++ [(v &&& 127 ||| 128) &&& 255]) f_9 := by exact hq_10
        have e_11 : nI (bs.length + 1) = nI (bs ++ [(v &&& 127 ||| 128) &&& 255]).length := (by rw [List.length_append]; rfl)
        have hP : va_P (dC, dI) vcl [(h, .inr (1, [.int g0, .int g1, .int g2, .int g3, .int g4, .ref g5, .int g6, .ref g7, .ref g8, .ref g9, .ref g10, .ref g11, .int g12, .int g13, .int g14, .ref g15, .int g16, .ref g17, .ref g18, .ref g19, .ref g20, .ref g21, .ref g22, .int g23, .ref g24, .int g25, .int g26, .int g27, .int g28, .ref g29, .int (nI (bs ++ [(v &&& 127 ||| 128) &&& 255]).length), .int g31, .int g32])), (g29, .inl (cB, 1400, .inl f_9))] H := by rw [← e_11]; exact hP
        have hD : va_D A [(h, .inr (1, [.int g0, .int g1, .int g2, .int g3, .int g4, .ref g5, .int g6, .ref g7, .ref g8, .ref g9, .ref g10, .ref g11, .int g12, .int g13, .int g14, .ref g15, .int g16, .ref g17, .ref g18, .ref g19, .ref g20, .ref g21, .ref g22, .int g23, .ref g24, .int g25, .int g26, .int g27, .int g28, .ref g29, .int (nI (bs ++ [(v &&& 127 ||| 128) &&& 255]).length), .int g31, .int g32])), (g29, .inl (cB, 1400, .inl f_9))] := by rw [← e_11]; exact hD
        refine lv_iload_n hx hb dd_M_layS_26 rfl (lv_at hl 2 rfl) ?_
        refine lv_bipush (v := 7) hx hb dd_M_layS_27 (by decide) ?_
        refine lv_ishr hx hb dd_M_layS_29 ?_
        refine lv_istore_n (lv' := [(2, .int (v >>> (7 &&& 31))), (0, .ref h), (1, .int p0)]) hx hb dd_M_layS_30 rfl hl (by decide) rfl (fun ls hl => ?_)
        refine lv_goto (tgt := 2) hx hb dd_M_layS_31 (by decide) ?_
        exact ih (v >>> ((7 : Int32) &&& 31)) (bs ++ [(v &&& 127 ||| 128) &&& 255]) f_9 hq_10 (inS_shr hk) (by rw [hU, encSf, if_pos hc, List.append_assoc]; rfl) (by rw [encSf, if_pos hc] at hRm; simp only [List.length_append, List.length_cons, List.length_nil] at hRm ⊢; omega) _ _ hP hD hS _ (lv_sub hl [1, 2, 0] rfl)
      · have hc1 := c_8
        refine lv_iload_n hx hb dd_M_layS_8 rfl (lv_at hl 2 rfl) ?_
        refine lv_bipush (v := 63) hx hb dd_M_layS_9 (by decide) ?_
        refine lv_icmp_le (tgt := 34) hx hb dd_M_layS_11 (by decide) (fun c_12 => ?_) (fun c_12 => ?_)
        · have hc : ¬ (v < -64 ∨ 63 < v) := fun z => z.elim hc1 (fun z => absurd c_12 (Int32.not_le.mpr z))
          refine lv_aload_n hx hb dd_M_layS_34 rfl (lv_at hl 0 rfl) ?_
          refine lv_iload_n hx hb dd_M_layS_35 rfl (lv_at hl 2 rfl) ?_
          refine lv_bipush (v := 127) hx hb dd_M_layS_36 (by decide) ?_
          refine lv_iand hx hb dd_M_layS_38 ?_
          have hPc := hP.sub (ws' := [(h, .inr (1, [.int g0, .int g1, .int g2, .int g3, .int g4, .ref g5, .int g6, .ref g7, .ref g8, .ref g9, .ref g10, .ref g11, .int g12, .int g13, .int g14, .ref g15, .int g16, .ref g17, .ref g18, .ref g19, .ref g20, .ref g21, .ref g22, .int g23, .ref g24, .int g25, .int g26, .int g27, .int g28, .ref g29, .int (nI bs.length), .int g31, .int g32])), (g29, .inl (cB, 1400, .inl f))]) [0, 1] rfl
          have hDc := hD.sub (ws' := [(h, .inr (1, [.int g0, .int g1, .int g2, .int g3, .int g4, .ref g5, .int g6, .ref g7, .ref g8, .ref g9, .ref g10, .ref g11, .int g12, .int g13, .int g14, .ref g15, .int g16, .ref g17, .ref g18, .ref g19, .ref g20, .ref g21, .ref g22, .int g23, .ref g24, .int g25, .int g26, .int g27, .int g28, .ref g29, .int (nI bs.length), .int g31, .int g32])), (g29, .inl (cB, 1400, .inl f))]) [0, 1] (by decide) rfl
          have hFc := va_free (wc := [(h, .inr (1, [.int g0, .int g1, .int g2, .int g3, .int g4, .ref g5, .int g6, .ref g7, .ref g8, .ref g9, .ref g10, .ref g11, .int g12, .int g13, .int g14, .ref g15, .int g16, .ref g17, .ref g18, .ref g19, .ref g20, .ref g21, .ref g22, .int g23, .ref g24, .int g25, .int g26, .int g27, .int g28, .ref g29, .int (nI bs.length), .int g31, .int g32])), (g29, .inl (cB, 1400, .inl f))]) hD hS hA [0, 1] rfl
          refine va_callv (va_runV (As := [.int (v &&& 127)]) (rest := []) ⟨hx, hb, hml, hown, hw⟩ (cb_M_lay l dC dI cB cI cJ H.size h g0 g1 g2 g3 g4 g6 g12 g13 g14 g16 g23 g25 g26 g27 g28 g31 g32 g5 g7 g8 g9 g10 g11 g15 g17 g18 g19 g20 g21 g22 g24 g29 f bs hH (v &&& 127) (by have := encSf_pos (k + 1) v; omega)) (kw_V 1 hw qq_735 qq_5 qq_738 qq_737 qs_M_lay rfl rfl (by decide +kernel) ⟨Nat.le_of_ble_eq_true rfl, Nat.le_of_ble_eq_true rfl⟩) ⟨fun a U g mk q => by obtain ⟨q0, q1, qP, qK, qD⟩ := q; exact ⟨q0, q1, qP, va_K.moved (u := U) (U := U.calling g mk a) (Vm.Alike.refl U.vm) qK, qD⟩, va_recv hK hPc (ci := 1) (q0 := 0) rfl rfl, fun U hU hW => ⟨rfl, by rw [hU], by rw [hU]; exact hPc, va_K.moved hW.alike hK, hDc.weaken (fun _ _ _ _ => trivial)⟩⟩ rfl rfl hl.1 rfl (lv_room (Nat.le_of_ble_eq_true rfl)) dd_M_layS_39 ⟨by first | exact Nat.le_of_ble_eq_true rfl | (simp only [headSpec]; omega), by first | exact Nat.le_of_ble_eq_true rfl | (simp only [headSpec]; omega)⟩) hS (fun q _ h => hFc q h) hFc (fun f_13 t H1 locs ht hvm hq_14 hB hz1 hk1 hS => ?_)
          obtain ⟨hP1, hK1, hD1⟩ := hB
          rw [ht] at hP1
          obtain ⟨hP, hD⟩ := va_join (wr := []) (w1 := [(h, .inr (1, [.int g0, .int g1, .int g2, .int g3, .int g4, .ref g5, .int g6, .ref g7, .ref g8, .ref g9, .ref g10, .ref g11, .int g12, .int g13, .int g14, .ref g15, .int g16, .ref g17, .ref g18, .ref g19, .ref g20, .ref g21, .ref g22, .int g23, .ref g24, .int g25, .int g26, .int g27, .int g28, .ref g29, .int (nI (bs.length + 1)), .int g31, .int g32])), (g29, .inl (cB, 1400, .inl f_13))]) hP hD [0, 1] [] rfl rfl (by decide) (by decide) hk1 hFc hP1 hD1
          clear hP1 hK1 hD1 ht hvm hz1 hk1 hPc hDc hFc
          generalize H1 = H at hP hS ⊢
          have hP : va_P (dC, dI) vcl [(h, .inr (1, [.int g0, .int g1, .int g2, .int g3, .int g4, .ref g5, .int g6, .ref g7, .ref g8, .ref g9, .ref g10, .ref g11, .int g12, .int g13, .int g14, .ref g15, .int g16, .ref g17, .ref g18, .ref g19, .ref g20, .ref g21, .ref g22, .int g23, .ref g24, .int g25, .int g26, .int g27, .int g28, .ref g29, .int (nI (bs.length + 1)), .int g31, .int g32])), (g29, .inl (cB, 1400, .inl f_13))] H := hP
          have hD : va_D A [(h, .inr (1, [.int g0, .int g1, .int g2, .int g3, .int g4, .ref g5, .int g6, .ref g7, .ref g8, .ref g9, .ref g10, .ref g11, .int g12, .int g13, .int g14, .ref g15, .int g16, .ref g17, .ref g18, .ref g19, .ref g20, .ref g21, .ref g22, .int g23, .ref g24, .int g25, .int g26, .int g27, .int g28, .ref g29, .int (nI (bs.length + 1)), .int g31, .int g32])), (g29, .inl (cB, 1400, .inl f_13))] := hD
          have hq_14 : Hd (bs ++ [(v &&& 127) &&& 255]) f_13 := by exact hq_14
          have e_15 : nI (bs.length + 1) = nI (bs ++ [(v &&& 127) &&& 255]).length := (by rw [List.length_append]; rfl)
          have hP : va_P (dC, dI) vcl [(h, .inr (1, [.int g0, .int g1, .int g2, .int g3, .int g4, .ref g5, .int g6, .ref g7, .ref g8, .ref g9, .ref g10, .ref g11, .int g12, .int g13, .int g14, .ref g15, .int g16, .ref g17, .ref g18, .ref g19, .ref g20, .ref g21, .ref g22, .int g23, .ref g24, .int g25, .int g26, .int g27, .int g28, .ref g29, .int (nI (bs ++ [(v &&& 127) &&& 255]).length), .int g31, .int g32])), (g29, .inl (cB, 1400, .inl f_13))] H := by rw [← e_15]; exact hP
          have hD : va_D A [(h, .inr (1, [.int g0, .int g1, .int g2, .int g3, .int g4, .ref g5, .int g6, .ref g7, .ref g8, .ref g9, .ref g10, .ref g11, .int g12, .int g13, .int g14, .ref g15, .int g16, .ref g17, .ref g18, .ref g19, .ref g20, .ref g21, .ref g22, .int g23, .ref g24, .int g25, .int g26, .int g27, .int g28, .ref g29, .int (nI (bs ++ [(v &&& 127) &&& 255]).length), .int g31, .int g32])), (g29, .inl (cB, 1400, .inl f_13))] := by rw [← e_15]; exact hD
          have hfin : bs ++ [(v &&& 127) &&& 255] = bs0 ++ encSf 4 p0 := by rw [hU, encSf, if_neg hc]
          have e_16 : nI (bs ++ [(v &&& 127) &&& 255]).length = nI (bs0 ++ encSf 4 p0).length := (by rw [hfin])
          have hP : va_P (dC, dI) vcl [(h, .inr (1, [.int g0, .int g1, .int g2, .int g3, .int g4, .ref g5, .int g6, .ref g7, .ref g8, .ref g9, .ref g10, .ref g11, .int g12, .int g13, .int g14, .ref g15, .int g16, .ref g17, .ref g18, .ref g19, .ref g20, .ref g21, .ref g22, .int g23, .ref g24, .int g25, .int g26, .int g27, .int g28, .ref g29, .int (nI (bs0 ++ encSf 4 p0).length), .int g31, .int g32])), (g29, .inl (cB, 1400, .inl f_13))] H := by rw [← e_16]; exact hP
          have hD : va_D A [(h, .inr (1, [.int g0, .int g1, .int g2, .int g3, .int g4, .ref g5, .int g6, .ref g7, .ref g8, .ref g9, .ref g10, .ref g11, .int g12, .int g13, .int g14, .ref g15, .int g16, .ref g17, .ref g18, .ref g19, .ref g20, .ref g21, .ref g22, .int g23, .ref g24, .int g25, .int g26, .int g27, .int g28, .ref g29, .int (nI (bs0 ++ encSf 4 p0).length), .int g31, .int g32])), (g29, .inl (cB, 1400, .inl f_13))] := by rw [← e_16]; exact hD
          have hP9 := hP.sub (ws' := [(h, .inr (1, [.int g0, .int g1, .int g2, .int g3, .int g4, .ref g5, .int g6, .ref g7, .ref g8, .ref g9, .ref g10, .ref g11, .int g12, .int g13, .int g14, .ref g15, .int g16, .ref g17, .ref g18, .ref g19, .ref g20, .ref g21, .ref g22, .int g23, .ref g24, .int g25, .int g26, .int g27, .int g28, .ref g29, .int (nI (bs0 ++ encSf 4 p0).length), .int g31, .int g32])), (g29, .inl (cB, 1400, .inl f_13))]) [0, 1] rfl
          have hD9 := hD.sub (ws' := [(h, .inr (1, [.int g0, .int g1, .int g2, .int g3, .int g4, .ref g5, .int g6, .ref g7, .ref g8, .ref g9, .ref g10, .ref g11, .int g12, .int g13, .int g14, .ref g15, .int g16, .ref g17, .ref g18, .ref g19, .ref g20, .ref g21, .ref g22, .int g23, .ref g24, .int g25, .int g26, .int g27, .int g28, .ref g29, .int (nI (bs0 ++ encSf 4 p0).length), .int g31, .int g32])), (g29, .inl (cB, 1400, .inl f_13))]) [0, 1] (by decide) rfl
          refine W.widen (k := 0) (n := 0) (by first | exact Nat.le_refl _ | omega) (by first | exact Nat.le_refl _ | omega) ?_
          exact W.vret hx hb hr (fun t ht hW => ⟨⟨f_13, rfl, (by rw [← hfin]; exact hq_14), by rw [ht]; exact hP9, va_K.moved hW.alike hK, hD9⟩, hS.F ht⟩) hS.2.2 dd_M_layS_42
        · have hc : v < -64 ∨ 63 < v := by first | exact Or.inl c_12 | exact Or.inr (Int32.not_le.mp c_12)
          refine lv_aload_n hx hb dd_M_layS_14 rfl (lv_at hl 0 rfl) ?_
          refine lv_iload_n hx hb dd_M_layS_15 rfl (lv_at hl 2 rfl) ?_
          refine lv_bipush (v := 127) hx hb dd_M_layS_16 (by decide) ?_
          refine lv_iand hx hb dd_M_layS_18 ?_
          refine lv_sipush (v := 128) hx hb dd_M_layS_19 (by decide) ?_
          refine lv_ior hx hb dd_M_layS_22 ?_
          have hPc := hP.sub (ws' := [(h, .inr (1, [.int g0, .int g1, .int g2, .int g3, .int g4, .ref g5, .int g6, .ref g7, .ref g8, .ref g9, .ref g10, .ref g11, .int g12, .int g13, .int g14, .ref g15, .int g16, .ref g17, .ref g18, .ref g19, .ref g20, .ref g21, .ref g22, .int g23, .ref g24, .int g25, .int g26, .int g27, .int g28, .ref g29, .int (nI bs.length), .int g31, .int g32])), (g29, .inl (cB, 1400, .inl f))]) [0, 1] rfl
          have hDc := hD.sub (ws' := [(h, .inr (1, [.int g0, .int g1, .int g2, .int g3, .int g4, .ref g5, .int g6, .ref g7, .ref g8, .ref g9, .ref g10, .ref g11, .int g12, .int g13, .int g14, .ref g15, .int g16, .ref g17, .ref g18, .ref g19, .ref g20, .ref g21, .ref g22, .int g23, .ref g24, .int g25, .int g26, .int g27, .int g28, .ref g29, .int (nI bs.length), .int g31, .int g32])), (g29, .inl (cB, 1400, .inl f))]) [0, 1] (by decide) rfl
          have hFc := va_free (wc := [(h, .inr (1, [.int g0, .int g1, .int g2, .int g3, .int g4, .ref g5, .int g6, .ref g7, .ref g8, .ref g9, .ref g10, .ref g11, .int g12, .int g13, .int g14, .ref g15, .int g16, .ref g17, .ref g18, .ref g19, .ref g20, .ref g21, .ref g22, .int g23, .ref g24, .int g25, .int g26, .int g27, .int g28, .ref g29, .int (nI bs.length), .int g31, .int g32])), (g29, .inl (cB, 1400, .inl f))]) hD hS hA [0, 1] rfl
          refine va_callv (va_runV (As := [.int ((v &&& 127) ||| 128)]) (rest := []) ⟨hx, hb, hml, hown, hw⟩ (cb_M_lay l dC dI cB cI cJ H.size h g0 g1 g2 g3 g4 g6 g12 g13 g14 g16 g23 g25 g26 g27 g28 g31 g32 g5 g7 g8 g9 g10 g11 g15 g17 g18 g19 g20 g21 g22 g24 g29 f bs hH ((v &&& 127) ||| 128) (by have := encSf_pos (k + 1) v; omega)) (kw_V 1 hw qq_735 qq_5 qq_738 qq_737 qs_M_lay rfl rfl (by decide +kernel) ⟨Nat.le_of_ble_eq_true rfl, Nat.le_of_ble_eq_true rfl⟩) ⟨fun a U g mk q => by obtain ⟨q0, q1, qP, qK, qD⟩ := q; exact ⟨q0, q1, qP, va_K.moved (u := U) (U := U.calling g mk a) (Vm.Alike.refl U.vm) qK, qD⟩, va_recv hK hPc (ci := 1) (q0 := 0) rfl rfl, fun U hU hW => ⟨rfl, by rw [hU], by rw [hU]; exact hPc, va_K.moved hW.alike hK, hDc.weaken (fun _ _ _ _ => trivial)⟩⟩ rfl rfl hl.1 rfl (lv_room (Nat.le_of_ble_eq_true rfl)) dd_M_layS_23 ⟨by first | exact Nat.le_of_ble_eq_true rfl | (simp only [headSpec]; omega), by first | exact Nat.le_of_ble_eq_true rfl | (simp only [headSpec]; omega)⟩) hS (fun q _ h => hFc q h) hFc (fun f_17 t H1 locs ht hvm hq_18 hB hz1 hk1 hS => ?_)
          obtain ⟨hP1, hK1, hD1⟩ := hB
          rw [ht] at hP1
          obtain ⟨hP, hD⟩ := va_join (wr := []) (w1 := [(h, .inr (1, [.int g0, .int g1, .int g2, .int g3, .int g4, .ref g5, .int g6, .ref g7, .ref g8, .ref g9, .ref g10, .ref g11, .int g12, .int g13, .int g14, .ref g15, .int g16, .ref g17, .ref g18, .ref g19, .ref g20, .ref g21, .ref g22, .int g23, .ref g24, .int g25, .int g26, .int g27, .int g28, .ref g29, .int (nI (bs.length + 1)), .int g31, .int g32])), (g29, .inl (cB, 1400, .inl f_17))]) hP hD [0, 1] [] rfl rfl (by decide) (by decide) hk1 hFc hP1 hD1
          clear hP1 hK1 hD1 ht hvm hz1 hk1 hPc hDc hFc
          generalize H1 = H at hP hS ⊢
          have hP : va_P (dC, dI) vcl [(h, .inr (1, [.int g0, .int g1, .int g2, .int g3, .int g4, .ref g5, .int g6, .ref g7, .ref g8, .ref g9, .ref g10, .ref g11, .int g12, .int g13, .int g14, .ref g15, .int g16, .ref g17, .ref g18, .ref g19, .ref g20, .ref g21, .ref g22, .int g23, .ref g24, .int g25, .int g26, .int g27, .int g28, .ref g29, .int (nI (bs.length + 1)), .int g31, .int g32])), (g29, .inl (cB, 1400, .inl f_17))] H := hP
          have hD : va_D A [(h, .inr (1, [.int g0, .int g1, .int g2, .int g3, .int g4, .ref g5, .int g6, .ref g7, .ref g8, .ref g9, .ref g10, .ref g11, .int g12, .int g13, .int g14, .ref g15, .int g16, .ref g17, .ref g18, .ref g19, .ref g20, .ref g21, .ref g22, .int g23, .ref g24, .int g25, .int g26, .int g27, .int g28, .ref g29, .int (nI (bs.length + 1)), .int g31, .int g32])), (g29, .inl (cB, 1400, .inl f_17))] := hD
          have hq_18 : Hd (bs ++ [(v &&& 127 ||| 128) &&& 255]) f_17 := by exact hq_18
          have e_19 : nI (bs.length + 1) = nI (bs ++ [(v &&& 127 ||| 128) &&& 255]).length := (by rw [List.length_append]; rfl)
          have hP : va_P (dC, dI) vcl [(h, .inr (1, [.int g0, .int g1, .int g2, .int g3, .int g4, .ref g5, .int g6, .ref g7, .ref g8, .ref g9, .ref g10, .ref g11, .int g12, .int g13, .int g14, .ref g15, .int g16, .ref g17, .ref g18, .ref g19, .ref g20, .ref g21, .ref g22, .int g23, .ref g24, .int g25, .int g26, .int g27, .int g28, .ref g29, .int (nI (bs ++ [(v &&& 127 ||| 128) &&& 255]).length), .int g31, .int g32])), (g29, .inl (cB, 1400, .inl f_17))] H := by rw [← e_19]; exact hP
          have hD : va_D A [(h, .inr (1, [.int g0, .int g1, .int g2, .int g3, .int g4, .ref g5, .int g6, .ref g7, .ref g8, .ref g9, .ref g10, .ref g11, .int g12, .int g13, .int g14, .ref g15, .int g16, .ref g17, .ref g18, .ref g19, .ref g20, .ref g21, .ref g22, .int g23, .ref g24, .int g25, .int g26, .int g27, .int g28, .ref g29, .int (nI (bs ++ [(v &&& 127 ||| 128) &&& 255]).length), .int g31, .int g32])), (g29, .inl (cB, 1400, .inl f_17))] := by rw [← e_19]; exact hD
          refine lv_iload_n hx hb dd_M_layS_26 rfl (lv_at hl 2 rfl) ?_
          refine lv_bipush (v := 7) hx hb dd_M_layS_27 (by decide) ?_
          refine lv_ishr hx hb dd_M_layS_29 ?_
          refine lv_istore_n (lv' := [(2, .int (v >>> (7 &&& 31))), (0, .ref h), (1, .int p0)]) hx hb dd_M_layS_30 rfl hl (by decide) rfl (fun ls hl => ?_)
          refine lv_goto (tgt := 2) hx hb dd_M_layS_31 (by decide) ?_
          exact ih (v >>> ((7 : Int32) &&& 31)) (bs ++ [(v &&& 127 ||| 128) &&& 255]) f_17 hq_18 (inS_shr hk) (by rw [hU, encSf, if_pos hc, List.append_assoc]; rfl) (by rw [encSf, if_pos hc] at hRm; simp only [List.length_append, List.length_cons, List.length_nil] at hRm ⊢; omega) _ _ hP hD hS _ (lv_sub hl [1, 2, 0] rfl)
  exact lp_1 4 p0 bs0 f0 hH (inS_4 p0) rfl hRm _ _ hP hD hS _ (lv_sub hl [1, 2, 0] rfl)

set_option maxHeartbeats 4000000 in
set_option maxRecDepth 100000 in
/-- isActor(a) -/
theorem cp_M_isActor (l : Launch) (p0 : Int32) : Met l yy_M_isActor (Cond.code yy_M_isActor cc_M_isActor 1 (some .boolean) :: gw) { frames := 0, cells := 0, slots := 0, locals := 0 } (va_Pc [.int p0] (fun _ => True)) (QcRead (b2i (decide (¬ p0 < 0 ∧ ¬ 8 ≤ p0)))) 0 0 (fun _ => False) := by
  refine Met.ofW (cc := cc_M_isActor) (maxL := 1) (ret := (some .boolean)) (by decide) rfl ?_
  intro p e s m args below meth c s₁ B hml hv
  obtain ⟨rfl, -⟩ := hv
  have hx := B.exec
  have hb := B.bytes
  have hr := B.returns
  have hw : ∀ w ∈ gw, w.before _ s = true := fun w h => atoms_spec (ws := (Cond.code yy_M_isActor cc_M_isActor 1 (some .boolean) :: gw)) B.pre w (List.mem_cons_of_mem _ h)
  have hown : s.vm.findClass RR_M = some m.cls := findClass_of_methodNamed B.named
  have hlocks := B.notSynchronized
  have hl := lv_entry ([.int p0]) (n := 1) (Nat.le_of_ble_eq_true rfl)
  rw [lg_entry_eq]
  generalize (lg_sl ([.int p0]) ++ List.replicate (1 - (lg_sl ([.int p0])).length) Slot.unset).toArray = ls at hl ⊢
  have hl : lv_has ls 1 [(0, .int p0)] := hl
  refine lv_iload_n hx hb dd_M_isActor_0 rfl (lv_at hl 0 rfl) ?_
  refine lv_if_lt (tgt := 14) hx hb dd_M_isActor_1 (by decide) (fun c_1 => ?_) (fun c_1 => ?_)
  · refine lv_iconst (v := 0) hx hb dd_M_isActor_14 (by decide) ?_
    refine lv_topi (fun z_2 hz_2 => ?_)
    obtain rfl : z_2 = b2i (decide (¬ p0 < 0 ∧ ¬ 8 ≤ p0)) := hz_2.trans (b2i_f (by simp [c_1]))
    exact W.zret (ty := .boolean) (v := b2i (decide (¬ p0 < 0 ∧ ¬ 8 ≤ p0))) hx hb hr (b2i_n _) (fun t ht hW => ⟨rfl, ht⟩) (fun q h => by cases h) dd_M_isActor_15
  · refine lv_iload_n hx hb dd_M_isActor_4 rfl (lv_at hl 0 rfl) ?_
    refine lv_bipush (v := 8) hx hb dd_M_isActor_5 (by decide) ?_
    refine lv_icmp_ge (tgt := 14) hx hb dd_M_isActor_7 (by decide) (fun c_3 => ?_) (fun c_3 => ?_)
    · refine lv_iconst (v := 0) hx hb dd_M_isActor_14 (by decide) ?_
      refine lv_topi (fun z_4 hz_4 => ?_)
      obtain rfl : z_4 = b2i (decide (¬ p0 < 0 ∧ ¬ 8 ≤ p0)) := hz_4.trans (b2i_f (by simp [c_1, c_3]))
      exact W.zret (ty := .boolean) (v := b2i (decide (¬ p0 < 0 ∧ ¬ 8 ≤ p0))) hx hb hr (b2i_n _) (fun t ht hW => ⟨rfl, ht⟩) (fun q h => by cases h) dd_M_isActor_15
    · refine lv_iconst (v := 1) hx hb dd_M_isActor_10 (by decide) ?_
      refine lv_goto (tgt := 15) hx hb dd_M_isActor_11 (by decide) ?_
      refine lv_topi (fun z_5 hz_5 => ?_)
      obtain rfl : z_5 = b2i (decide (¬ p0 < 0 ∧ ¬ 8 ≤ p0)) := hz_5.trans (b2i_t (by simp [c_1, c_3]))
      exact W.zret (ty := .boolean) (v := b2i (decide (¬ p0 < 0 ∧ ¬ 8 ≤ p0))) hx hb hr (b2i_n _) (fun t ht hW => ⟨rfl, ht⟩) (fun q h => by cases h) dd_M_isActor_15

set_option maxHeartbeats 4000000 in
set_option maxRecDepth 100000 in
/-- isId(id) -/
theorem cp_M_isId (l : Launch) (p0 : Int64) : Met l yy_M_isId (Cond.code yy_M_isId cc_M_isId 2 (some .boolean) :: gw) { frames := 0, cells := 0, slots := 0, locals := 0 } (va_Pc [.long p0] (fun _ => True)) (QcRead (b2i (decide (¬ p0 < 8 ∧ ¬ 800007 < p0)))) 0 0 (fun _ => False) := by
  refine Met.ofW (cc := cc_M_isId) (maxL := 2) (ret := (some .boolean)) (by decide) rfl ?_
  intro p e s m args below meth c s₁ B hml hv
  obtain ⟨rfl, -⟩ := hv
  have hx := B.exec
  have hb := B.bytes
  have hr := B.returns
  have hw : ∀ w ∈ gw, w.before _ s = true := fun w h => atoms_spec (ws := (Cond.code yy_M_isId cc_M_isId 2 (some .boolean) :: gw)) B.pre w (List.mem_cons_of_mem _ h)
  have hown : s.vm.findClass RR_M = some m.cls := findClass_of_methodNamed B.named
  have hlocks := B.notSynchronized
  have hl := lv_entry ([.long p0]) (n := 2) (Nat.le_of_ble_eq_true rfl)
  rw [lg_entry_eq]
  generalize (lg_sl ([.long p0]) ++ List.replicate (2 - (lg_sl ([.long p0])).length) Slot.unset).toArray = ls at hl ⊢
  have hl : lv_has ls 2 [(0, .long p0)] := hl
  refine lv_lload_n hx hb dd_M_isId_0 rfl (lv_at hl 0 rfl) ?_
  refine lv_ldc2 (v := 8) hx hb hown (hw _ qq_709) dd_M_isId_1 ?_
  refine W.lcmp hx hb dd_M_isId_4 ?_
  refine lv_if_lt (tgt := 20) hx hb dd_M_isId_5 (by decide) (fun c_1 => ?_) (fun c_1 => ?_)
  · have c_1 := lc_lt.mp c_1
    refine lv_iconst (v := 0) hx hb dd_M_isId_20 (by decide) ?_
    refine lv_topi (fun z_2 hz_2 => ?_)
    obtain rfl : z_2 = b2i (decide (¬ p0 < 8 ∧ ¬ 800007 < p0)) := hz_2.trans (b2i_f (by simp [c_1]))
    exact W.zret (ty := .boolean) (v := b2i (decide (¬ p0 < 8 ∧ ¬ 800007 < p0))) hx hb hr (b2i_n _) (fun t ht hW => ⟨rfl, ht⟩) (fun q h => by cases h) dd_M_isId_21
  · have c_1 := mt lc_lt.mpr c_1
    refine lv_lload_n hx hb dd_M_isId_8 rfl (lv_at hl 0 rfl) ?_
    refine lv_ldc2 (v := 800007) hx hb hown (hw _ qq_710) dd_M_isId_9 ?_
    refine W.lcmp hx hb dd_M_isId_12 ?_
    refine lv_if_gt (tgt := 20) hx hb dd_M_isId_13 (by decide) (fun c_3 => ?_) (fun c_3 => ?_)
    · have c_3 := lc_gt.mp c_3
      refine lv_iconst (v := 0) hx hb dd_M_isId_20 (by decide) ?_
      refine lv_topi (fun z_4 hz_4 => ?_)
      obtain rfl : z_4 = b2i (decide (¬ p0 < 8 ∧ ¬ 800007 < p0)) := hz_4.trans (b2i_f (by simp [c_1, c_3]))
      exact W.zret (ty := .boolean) (v := b2i (decide (¬ p0 < 8 ∧ ¬ 800007 < p0))) hx hb hr (b2i_n _) (fun t ht hW => ⟨rfl, ht⟩) (fun q h => by cases h) dd_M_isId_21
    · have c_3 := mt lc_gt.mpr c_3
      refine lv_iconst (v := 1) hx hb dd_M_isId_16 (by decide) ?_
      refine lv_goto (tgt := 21) hx hb dd_M_isId_17 (by decide) ?_
      refine lv_topi (fun z_5 hz_5 => ?_)
      obtain rfl : z_5 = b2i (decide (¬ p0 < 8 ∧ ¬ 800007 < p0)) := hz_5.trans (b2i_t (by simp [c_1, c_3]))
      exact W.zret (ty := .boolean) (v := b2i (decide (¬ p0 < 8 ∧ ¬ 800007 < p0))) hx hb hr (b2i_n _) (fun t ht hW => ⟨rfl, ht⟩) (fun q h => by cases h) dd_M_isId_21

set_option maxHeartbeats 4000000 in
set_option maxRecDepth 100000 in
/-- idOf(k) -/
theorem cp_M_idOf (l : Launch) (dC : Nat → ClassId) (dI : Nat → Nat → Nat) (cB cI cJ : ClassId) (h : Nat) (g0 g1 g2 g3 g4 g6 g12 g13 g14 g16 g23 g25 g26 g27 g28 g30 g31 g32 : Int32) (g5 g7 g8 g9 g10 g11 g15 g17 g18 g19 g20 g21 g22 g24 g29 : Nat) (p0 : Int32) : Met l yy_M_idOf (Cond.code yy_M_idOf cc_M_idOf 2 (some .int) :: gw) { frames := 0, cells := 0, slots := 0, locals := 0 } (va_Pc [.ref h, .int p0] (kr_pre dC dI [(cB, .byte), (cI, .int), (cJ, .long)] [(h, .inr (1, [.int g0, .int g1, .int g2, .int g3, .int g4, .ref g5, .int g6, .ref g7, .ref g8, .ref g9, .ref g10, .ref g11, .int g12, .int g13, .int g14, .ref g15, .int g16, .ref g17, .ref g18, .ref g19, .ref g20, .ref g21, .ref g22, .int g23, .ref g24, .int g25, .int g26, .int g27, .int g28, .ref g29, .int g30, .int g31, .int g32]))])) (QcRead ((g4 + p0) * 8 + g2)) 0 0 (fun _ => False) := by
  refine Met.ofW (cc := cc_M_idOf) (maxL := 2) (ret := (some .int)) (by decide) rfl ?_
  intro p e s m args below meth c s₁ B hml hv
  obtain ⟨rfl, hP, hK⟩ := hv
  have hx := B.exec
  have hb := B.bytes
  have hr := B.returns
  have hw : ∀ w ∈ gw, w.before _ s = true := fun w h => atoms_spec (ws := (Cond.code yy_M_idOf cc_M_idOf 2 (some .int) :: gw)) B.pre w (List.mem_cons_of_mem _ h)
  have hown : s.vm.findClass RR_M = some m.cls := findClass_of_methodNamed B.named
  have hlocks := B.notSynchronized
  have hP : va_P (dC, dI) vcl [(h, .inr (1, [.int g0, .int g1, .int g2, .int g3, .int g4, .ref g5, .int g6, .ref g7, .ref g8, .ref g9, .ref g10, .ref g11, .int g12, .int g13, .int g14, .ref g15, .int g16, .ref g17, .ref g18, .ref g19, .ref g20, .ref g21, .ref g22, .int g23, .ref g24, .int g25, .int g26, .int g27, .int g28, .ref g29, .int g30, .int g31, .int g32]))] s.heap := hP
  have hl := lv_entry ([.ref h, .int p0]) (n := 2) (Nat.le_of_ble_eq_true rfl)
  rw [lg_entry_eq]
  generalize (lg_sl ([.ref h, .int p0]) ++ List.replicate (2 - (lg_sl ([.ref h, .int p0])).length) Slot.unset).toArray = ls at hl ⊢
  have hl : lv_has ls 2 [(0, .ref h), (1, .int p0)] := hl
  refine lv_aload_n hx hb dd_M_idOf_0 rfl (lv_at hl 0 rfl) ?_
  refine va_get (D := (dC, dI)) (ci := 1) (v := .int g4) (C := RR_M) (T := TT_M) (N := 33) hx hb hw hh_M hown hK hP 0 rfl rfl 4 (by decide) (hw _ qq_583) (fun _ h9 => h9) rfl dd_M_idOf_1 ?_
  refine lv_iload_n hx hb dd_M_idOf_4 rfl (lv_at hl 1 rfl) ?_
  refine lv_iadd hx hb dd_M_idOf_5 ?_
  refine lv_bipush (v := 8) hx hb dd_M_idOf_6 (by decide) ?_
  refine lv_imul hx hb dd_M_idOf_8 ?_
  refine lv_aload_n hx hb dd_M_idOf_9 rfl (lv_at hl 0 rfl) ?_
  refine va_get (D := (dC, dI)) (ci := 1) (v := .int g2) (C := RR_M) (T := TT_M) (N := 33) hx hb hw hh_M hown hK hP 0 rfl rfl 2 (by decide) (hw _ qq_581) (fun _ h9 => h9) rfl dd_M_idOf_10 ?_
  refine lv_iadd hx hb dd_M_idOf_13 ?_
  refine lv_topi (fun z_1 hz_1 => ?_)
  obtain rfl : z_1 = (g4 + p0) * 8 + g2 := hz_1.trans (rfl)
  exact W.iret (v := (g4 + p0) * 8 + g2) hx hb hr (fun t ht hW => ⟨rfl, ht⟩) (fun q h => by cases h) dd_M_idOf_14

set_option maxHeartbeats 4000000 in
set_option maxRecDepth 100000 in
/-- letters(v) -/
theorem cp_M_letters (l : Launch) (p0 : Int64) : Met l yy_M_letters (Cond.code yy_M_letters cc_M_letters 7 (some .int) :: gw) { frames := 0, cells := 0, slots := 0, locals := 0 } (va_Pc [.long p0] (fun _ => True)) (QcRead (ltR true 0 (ltrs 8 p0))) 0 0 (fun _ => False) := by
  refine Met.ofW (cc := cc_M_letters) (maxL := 7) (ret := (some .int)) (by decide) rfl ?_
  intro p e s m args below meth c s₁ B hml hv
  obtain ⟨rfl, -⟩ := hv
  have hx := B.exec
  have hb := B.bytes
  have hr := B.returns
  have hw : ∀ w ∈ gw, w.before _ s = true := fun w h => atoms_spec (ws := (Cond.code yy_M_letters cc_M_letters 7 (some .int) :: gw)) B.pre w (List.mem_cons_of_mem _ h)
  have hown : s.vm.findClass RR_M = some m.cls := findClass_of_methodNamed B.named
  have hlocks := B.notSynchronized
  have hl := lv_entry ([.long p0]) (n := 7) (Nat.le_of_ble_eq_true rfl)
  rw [lg_entry_eq]
  generalize (lg_sl ([.long p0]) ++ List.replicate (7 - (lg_sl ([.long p0])).length) Slot.unset).toArray = ls at hl ⊢
  have hl : lv_has ls 7 [(0, .long p0)] := hl
  refine lv_iconst (v := 0) hx hb dd_M_letters_0 (by decide) ?_
  refine lv_istore_n (lv' := [(2, .int 0), (0, .long p0)]) hx hb dd_M_letters_1 rfl hl (by decide) rfl (fun ls hl => ?_)
  refine lv_iconst (v := 1) hx hb dd_M_letters_2 (by decide) ?_
  refine lv_istore_n (lv' := [(3, .int 1), (2, .int 0), (0, .long p0)]) hx hb dd_M_letters_3 rfl hl (by decide) rfl (fun ls hl => ?_)
  refine lv_lload_n hx hb dd_M_letters_4 rfl (lv_at hl 2 rfl) ?_
  refine lv_lstore (lv' := [(4, .long p0), (3, .int 1), (2, .int 0), (0, .long p0)]) hx hb dd_M_letters_5 hl (by decide) rfl (fun ls hl => ?_)
  have lp_1 : ∀ (k : Nat) (left : Int64) (n : Nat) (g : Bool), inL k left → ltR true 0 (ltrs 8 p0) = ltR g n (ltrs k left) → ∀ ls : Array Slot, lv_has ls 7 [(0, .long p0), (2, .int (nI n)), (3, .int (b2i g)), (4, .long left)] → W p l e (headSpec (Cond.code yy_M_letters cc_M_letters 7 (some .int) :: gw) { frames := 0, cells := 0, slots := 0, locals := 0 }).room s m ([.long p0] : List Value).toArray below meth c s.heap [] 0 0 (MQ below (QcRead (ltR true 0 (ltrs 8 p0))) ([.long p0] : List Value).toArray s 0 0 (fun _ => False)) (F0 m 7 ls []) := by
    intro k
    induction k with
    | zero =>
      intro left n g hk hU ls hl
      refine lv_lload hx hb dd_M_letters_7 (lv_at hl 3 rfl) ?_
      refine lv_lconst (v := 0) hx hb dd_M_letters_9 (by decide) ?_
      refine W.lcmp hx hb dd_M_letters_10 ?_
      refine lv_if_eq (tgt := 60) hx hb dd_M_letters_11 (by decide) (fun c_2 => ?_) (fun c_2 => ?_)
      · have c_2 := lc_eq.mp c_2
        have hz := c_2
        refine lv_iload_n hx hb dd_M_letters_60 rfl (lv_at hl 2 rfl) ?_
        refine lv_if_eq (tgt := 68) hx hb dd_M_letters_61 (by decide) (fun c_3 => ?_) (fun c_3 => ?_)
        · have hg := c_3
          refine lv_iconst (v := -1) hx hb dd_M_letters_68 (by decide) ?_
          refine lv_topi (fun z_4 hz_4 => ?_)
          obtain rfl : z_4 = ltR true 0 (ltrs 8 p0) := hz_4.trans ((by rw [hU, ltR_n hg]))
          exact W.iret (v := ltR true 0 (ltrs 8 p0)) hx hb hr (fun t ht hW => ⟨rfl, ht⟩) (fun q h => by cases h) dd_M_letters_69
        · have hg := c_3
          refine lv_iload_n hx hb dd_M_letters_64 rfl (lv_at hl 1 rfl) ?_
          refine lv_goto (tgt := 69) hx hb dd_M_letters_65 (by decide) ?_
          refine lv_topi (fun z_5 hz_5 => ?_)
          obtain rfl : z_5 = ltR true 0 (ltrs 8 p0) := hz_5.trans ((by rw [hU, hz, ltrs_z, ltR_t hg]))
          exact W.iret (v := ltR true 0 (ltrs 8 p0)) hx hb hr (fun t ht hW => ⟨rfl, ht⟩) (fun q h => by cases h) dd_M_letters_69
      · have c_2 := mt lc_eq.mpr c_2
        exact absurd (inL_0 hk) c_2
    | succ k ih =>
      intro left n g hk hU ls hl
      refine lv_lload hx hb dd_M_letters_7 (lv_at hl 3 rfl) ?_
      refine lv_lconst (v := 0) hx hb dd_M_letters_9 (by decide) ?_
      refine W.lcmp hx hb dd_M_letters_10 ?_
      refine lv_if_eq (tgt := 60) hx hb dd_M_letters_11 (by decide) (fun c_6 => ?_) (fun c_6 => ?_)
      · have c_6 := lc_eq.mp c_6
        have hz := c_6
        refine lv_iload_n hx hb dd_M_letters_60 rfl (lv_at hl 2 rfl) ?_
        refine lv_if_eq (tgt := 68) hx hb dd_M_letters_61 (by decide) (fun c_7 => ?_) (fun c_7 => ?_)
        · have hg := c_7
          refine lv_iconst (v := -1) hx hb dd_M_letters_68 (by decide) ?_
          refine lv_topi (fun z_8 hz_8 => ?_)
          obtain rfl : z_8 = ltR true 0 (ltrs 8 p0) := hz_8.trans ((by rw [hU, ltR_n hg]))
          exact W.iret (v := ltR true 0 (ltrs 8 p0)) hx hb hr (fun t ht hW => ⟨rfl, ht⟩) (fun q h => by cases h) dd_M_letters_69
        · have hg := c_7
          refine lv_iload_n hx hb dd_M_letters_64 rfl (lv_at hl 1 rfl) ?_
          refine lv_goto (tgt := 69) hx hb dd_M_letters_65 (by decide) ?_
          refine lv_topi (fun z_9 hz_9 => ?_)
          obtain rfl : z_9 = ltR true 0 (ltrs 8 p0) := hz_9.trans ((by rw [hU, hz, ltrs_z, ltR_t hg]))
          exact W.iret (v := ltR true 0 (ltrs 8 p0)) hx hb hr (fun t ht hW => ⟨rfl, ht⟩) (fun q h => by cases h) dd_M_letters_69
      · have c_6 := mt lc_eq.mpr c_6
        have hz := c_6
        refine lv_lload hx hb dd_M_letters_14 (lv_at hl 3 rfl) ?_
        refine lv_ldc2 (v := 255) hx hb hown (hw _ qq_714) dd_M_letters_16 ?_
        refine lv_land hx hb dd_M_letters_19 ?_
        refine lv_l2i (v := (left &&& 255).toInt32) hx hb dd_M_letters_20 rfl ?_
        refine lv_istore (lv' := [(6, .int ((left &&& 255).toInt32)), (0, .long p0), (2, .int (nI n)), (3, .int (b2i g)), (4, .long left)]) hx hb dd_M_letters_21 hl (by decide) rfl (fun ls hl => ?_)
        refine lv_iload_n hx hb dd_M_letters_23 rfl (lv_at hl 3 rfl) ?_
        refine lv_if_eq (tgt := 45) hx hb dd_M_letters_24 (by decide) (fun c_10 => ?_) (fun c_10 => ?_)
        · refine lv_iconst (v := 0) hx hb dd_M_letters_45 (by decide) ?_
          refine lv_istore_n (lv' := [(3, .int 0), (6, .int ((left &&& 255).toInt32)), (0, .long p0), (2, .int (nI n)), (4, .long left)]) hx hb dd_M_letters_46 rfl hl (by decide) rfl (fun ls hl => ?_)
          refine lv_iinc (v := (nI n) + 1) (lv' := [(2, .int ((nI n) + 1)), (3, .int 0), (6, .int ((left &&& 255).toInt32)), (0, .long p0), (4, .long left)]) hx hb dd_M_letters_47 hl (k := 3) rfl rfl (by decide) rfl (fun ls hl => ?_)
          refine lv_lload hx hb dd_M_letters_50 (lv_at hl 4 rfl) ?_
          refine lv_bipush (v := 8) hx hb dd_M_letters_52 (by decide) ?_
          refine lv_lushr (v := (left.toUInt64 >>> ((8 : Int32).toInt64.toUInt64 &&& Int64.toUInt64 63)).toInt64) hx hb dd_M_letters_54 rfl ?_
          refine lv_lstore (lv' := [(4, .long ((left.toUInt64 >>> ((8 : Int32).toInt64.toUInt64 &&& Int64.toUInt64 63)).toInt64)), (2, .int ((nI n) + 1)), (3, .int 0), (6, .int ((left &&& 255).toInt32)), (0, .long p0)]) hx hb dd_M_letters_55 hl (by decide) rfl (fun ls hl => ?_)
          refine lv_goto (tgt := 7) hx hb dd_M_letters_57 (by decide) ?_
          have e_11 : (nI n) + 1 = nI (n + 1) := nI_1 n
          have hl : lv_has ls 7 [(4, .long ((left.toUInt64 >>> ((8 : Int32).toInt64.toUInt64 &&& Int64.toUInt64 63)).toInt64)), (2, .int (nI (n + 1))), (3, .int 0), (6, .int ((left &&& 255).toInt32)), (0, .long p0)] := by rw [← e_11]; exact hl
          exact ih (sh8 left) (n + 1) false (inL_sh hk) (by rw [ltR_f, hU]; exact ltR_n c_10 n _) _ (lv_sub hl [4, 1, 2, 0] rfl)
        · have hg := c_10
          refine lv_iload hx hb dd_M_letters_27 (lv_at hl 0 rfl) ?_
          refine lv_bipush (v := 97) hx hb dd_M_letters_29 (by decide) ?_
          refine lv_icmp_lt (tgt := 45) hx hb dd_M_letters_31 (by decide) (fun c_12 => ?_) (fun c_12 => ?_)
          · refine lv_iconst (v := 0) hx hb dd_M_letters_45 (by decide) ?_
            refine lv_istore_n (lv' := [(3, .int 0), (6, .int ((left &&& 255).toInt32)), (0, .long p0), (2, .int (nI n)), (4, .long left)]) hx hb dd_M_letters_46 rfl hl (by decide) rfl (fun ls hl => ?_)
            refine lv_iinc (v := (nI n) + 1) (lv' := [(2, .int ((nI n) + 1)), (3, .int 0), (6, .int ((left &&& 255).toInt32)), (0, .long p0), (4, .long left)]) hx hb dd_M_letters_47 hl (k := 3) rfl rfl (by decide) rfl (fun ls hl => ?_)
            refine lv_lload hx hb dd_M_letters_50 (lv_at hl 4 rfl) ?_
            refine lv_bipush (v := 8) hx hb dd_M_letters_52 (by decide) ?_
            refine lv_lushr (v := (left.toUInt64 >>> ((8 : Int32).toInt64.toUInt64 &&& Int64.toUInt64 63)).toInt64) hx hb dd_M_letters_54 rfl ?_
            refine lv_lstore (lv' := [(4, .long ((left.toUInt64 >>> ((8 : Int32).toInt64.toUInt64 &&& Int64.toUInt64 63)).toInt64)), (2, .int ((nI n) + 1)), (3, .int 0), (6, .int ((left &&& 255).toInt32)), (0, .long p0)]) hx hb dd_M_letters_55 hl (by decide) rfl (fun ls hl => ?_)
            refine lv_goto (tgt := 7) hx hb dd_M_letters_57 (by decide) ?_
            have e_13 : (nI n) + 1 = nI (n + 1) := nI_1 n
            have hl : lv_has ls 7 [(4, .long ((left.toUInt64 >>> ((8 : Int32).toInt64.toUInt64 &&& Int64.toUInt64 63)).toInt64)), (2, .int (nI (n + 1))), (3, .int 0), (6, .int ((left &&& 255).toInt32)), (0, .long p0)] := by rw [← e_13]; exact hl
            exact ih (sh8 left) (n + 1) false (inL_sh hk) (by rw [ltR_f, hU]; exact (by rw [ltrs_n hz (fun z => z.1 c_12)]; rfl)) _ (lv_sub hl [4, 1, 2, 0] rfl)
          · have hc1 := c_12
            refine lv_iload hx hb dd_M_letters_34 (lv_at hl 0 rfl) ?_
            refine lv_bipush (v := 122) hx hb dd_M_letters_36 (by decide) ?_
            refine lv_icmp_gt (tgt := 45) hx hb dd_M_letters_38 (by decide) (fun c_14 => ?_) (fun c_14 => ?_)
            · refine lv_iconst (v := 0) hx hb dd_M_letters_45 (by decide) ?_
              refine lv_istore_n (lv' := [(3, .int 0), (6, .int ((left &&& 255).toInt32)), (0, .long p0), (2, .int (nI n)), (4, .long left)]) hx hb dd_M_letters_46 rfl hl (by decide) rfl (fun ls hl => ?_)
              refine lv_iinc (v := (nI n) + 1) (lv' := [(2, .int ((nI n) + 1)), (3, .int 0), (6, .int ((left &&& 255).toInt32)), (0, .long p0), (4, .long left)]) hx hb dd_M_letters_47 hl (k := 3) rfl rfl (by decide) rfl (fun ls hl => ?_)
              refine lv_lload hx hb dd_M_letters_50 (lv_at hl 4 rfl) ?_
              refine lv_bipush (v := 8) hx hb dd_M_letters_52 (by decide) ?_
              refine lv_lushr (v := (left.toUInt64 >>> ((8 : Int32).toInt64.toUInt64 &&& Int64.toUInt64 63)).toInt64) hx hb dd_M_letters_54 rfl ?_
              refine lv_lstore (lv' := [(4, .long ((left.toUInt64 >>> ((8 : Int32).toInt64.toUInt64 &&& Int64.toUInt64 63)).toInt64)), (2, .int ((nI n) + 1)), (3, .int 0), (6, .int ((left &&& 255).toInt32)), (0, .long p0)]) hx hb dd_M_letters_55 hl (by decide) rfl (fun ls hl => ?_)
              refine lv_goto (tgt := 7) hx hb dd_M_letters_57 (by decide) ?_
              have e_15 : (nI n) + 1 = nI (n + 1) := nI_1 n
              have hl : lv_has ls 7 [(4, .long ((left.toUInt64 >>> ((8 : Int32).toInt64.toUInt64 &&& Int64.toUInt64 63)).toInt64)), (2, .int (nI (n + 1))), (3, .int 0), (6, .int ((left &&& 255).toInt32)), (0, .long p0)] := by rw [← e_15]; exact hl
              exact ih (sh8 left) (n + 1) false (inL_sh hk) (by rw [ltR_f, hU]; exact (by rw [ltrs_n hz (fun z => z.2 c_14)]; rfl)) _ (lv_sub hl [4, 1, 2, 0] rfl)
            · have hc2 := c_14
              refine lv_iconst (v := 1) hx hb dd_M_letters_41 (by decide) ?_
              refine lv_goto (tgt := 46) hx hb dd_M_letters_42 (by decide) ?_
              refine lv_istore_n (lv' := [(3, .int 1), (6, .int ((left &&& 255).toInt32)), (0, .long p0), (2, .int (nI n)), (4, .long left)]) hx hb dd_M_letters_46 rfl hl (by decide) rfl (fun ls hl => ?_)
              refine lv_iinc (v := (nI n) + 1) (lv' := [(2, .int ((nI n) + 1)), (3, .int 1), (6, .int ((left &&& 255).toInt32)), (0, .long p0), (4, .long left)]) hx hb dd_M_letters_47 hl (k := 3) rfl rfl (by decide) rfl (fun ls hl => ?_)
              refine lv_lload hx hb dd_M_letters_50 (lv_at hl 4 rfl) ?_
              refine lv_bipush (v := 8) hx hb dd_M_letters_52 (by decide) ?_
              refine lv_lushr (v := (left.toUInt64 >>> ((8 : Int32).toInt64.toUInt64 &&& Int64.toUInt64 63)).toInt64) hx hb dd_M_letters_54 rfl ?_
              refine lv_lstore (lv' := [(4, .long ((left.toUInt64 >>> ((8 : Int32).toInt64.toUInt64 &&& Int64.toUInt64 63)).toInt64)), (2, .int ((nI n) + 1)), (3, .int 1), (6, .int ((left &&& 255).toInt32)), (0, .long p0)]) hx hb dd_M_letters_55 hl (by decide) rfl (fun ls hl => ?_)
              refine lv_goto (tgt := 7) hx hb dd_M_letters_57 (by decide) ?_
              have e_16 : (nI n) + 1 = nI (n + 1) := nI_1 n
              have hl : lv_has ls 7 [(4, .long ((left.toUInt64 >>> ((8 : Int32).toInt64.toUInt64 &&& Int64.toUInt64 63)).toInt64)), (2, .int (nI (n + 1))), (3, .int 1), (6, .int ((left &&& 255).toInt32)), (0, .long p0)] := by rw [← e_16]; exact hl
              exact ih (sh8 left) (n + 1) true (inL_sh hk) (by rw [hU, ltrs_y hz ⟨hc1, hc2⟩, b2i_tt hg]; exact ltR_s true n _) _ (lv_sub hl [4, 1, 2, 0] rfl)
  exact lp_1 8 p0 0 true (inL_8 p0) rfl _ (lv_sub hl [3, 2, 1, 0] rfl)

set_option maxHeartbeats 4000000 in
set_option maxRecDepth 100000 in
/-- layLetters(v) -/
theorem cb_M_layLetters (l : Launch) (dC : Nat → ClassId) (dI : Nat → Nat → Nat) (cB cI cJ : ClassId) (sz : Nat) (h : Nat) (g0 g1 g2 g3 g4 g6 g12 g13 g14 g16 g23 g25 g26 g27 g28 g31 g32 : Int32) (g5 g7 g8 g9 g10 g11 g15 g17 g18 g19 g20 g21 g22 g24 g29 : Nat) (f0 : Nat → Int32) (bs0 : List Int32) (hH : Hd bs0 f0) (p0 : Int64) (n : Nat) (hn : ltrs 8 p0 = some n) (hRm : bs0.length + (nI n :: encLk n p0).length ≤ 1400) : Met l yy_M_layLetters (Cond.code yy_M_layLetters cc_M_layLetters 5 none :: gw) { frames := 1, cells := 0, slots := 0, locals := 26 } (va_Pc [.ref h, .long p0] (ks_pre dC dI [(cB, .byte), (cI, .int), (cJ, .long)] [(h, .inr (1, [.int g0, .int g1, .int g2, .int g3, .int g4, .ref g5, .int g6, .ref g7, .ref g8, .ref g9, .ref g10, .ref g11, .int g12, .int g13, .int g14, .ref g15, .int g16, .ref g17, .ref g18, .ref g19, .ref g20, .ref g21, .ref g22, .int g23, .ref g24, .int g25, .int g26, .int g27, .int g28, .ref g29, .int (nI bs0.length), .int g31, .int g32])), (g29, .inl (cB, 1400, .inl f0))] sz)) (va_Qv (fun (u : Nat → Int32) => Hd (bs0 ++ nI n :: encLk n p0) u) (fun (u : Nat → Int32) => ks_post dC dI [(cB, .byte), (cI, .int), (cJ, .long)] (va_A [(h, .inr (1, [.int g0, .int g1, .int g2, .int g3, .int g4, .ref g5, .int g6, .ref g7, .ref g8, .ref g9, .ref g10, .ref g11, .int g12, .int g13, .int g14, .ref g15, .int g16, .ref g17, .ref g18, .ref g19, .ref g20, .ref g21, .ref g22, .int g23, .ref g24, .int g25, .int g26, .int g27, .int g28, .ref g29, .int (nI bs0.length), .int g31, .int g32])), (g29, .inl (cB, 1400, .inl f0))] sz) [(h, .inr (1, [.int g0, .int g1, .int g2, .int g3, .int g4, .ref g5, .int g6, .ref g7, .ref g8, .ref g9, .ref g10, .ref g11, .int g12, .int g13, .int g14, .ref g15, .int g16, .ref g17, .ref g18, .ref g19, .ref g20, .ref g21, .ref g22, .int g23, .ref g24, .int g25, .int g26, .int g27, .int g28, .ref g29, .int (nI (bs0 ++ nI n :: encLk n p0).length), .int g31, .int g32])), (g29, .inl (cB, 1400, .inl u))]) (va_A [(h, .inr (1, [.int g0, .int g1, .int g2, .int g3, .int g4, .ref g5, .int g6, .ref g7, .ref g8, .ref g9, .ref g10, .ref g11, .int g12, .int g13, .int g14, .ref g15, .int g16, .ref g17, .ref g18, .ref g19, .ref g20, .ref g21, .ref g22, .int g23, .ref g24, .int g25, .int g26, .int g27, .int g28, .ref g29, .int (nI bs0.length), .int g31, .int g32])), (g29, .inl (cB, 1400, .inl f0))] sz)) 0 0 (va_A [(h, .inr (1, [.int g0, .int g1, .int g2, .int g3, .int g4, .ref g5, .int g6, .ref g7, .ref g8, .ref g9, .ref g10, .ref g11, .int g12, .int g13, .int g14, .ref g15, .int g16, .ref g17, .ref g18, .ref g19, .ref g20, .ref g21, .ref g22, .int g23, .ref g24, .int g25, .int g26, .int g27, .int g28, .ref g29, .int (nI bs0.length), .int g31, .int g32])), (g29, .inl (cB, 1400, .inl f0))] sz) := by
  refine Met.ofW (cc := cc_M_layLetters) (maxL := 5) (ret := none) (by decide) rfl ?_
  intro p e s m args below meth c s₁ B hml hv
  obtain ⟨rfl, hsz, hP, hK, hD0⟩ := hv
  have hx := B.exec
  have hb := B.bytes
  have hr := B.returns
  have hw : ∀ w ∈ gw, w.before _ s = true := fun w h => atoms_spec (ws := (Cond.code yy_M_layLetters cc_M_layLetters 5 none :: gw)) B.pre w (List.mem_cons_of_mem _ h)
  have hown : s.vm.findClass RR_M = some m.cls := findClass_of_methodNamed B.named
  have hlocks := B.notSynchronized
  subst hsz
  have hD := hD0.self (sz := s.heap.size)
  generalize hAe : va_A [(h, .inr (1, [.int g0, .int g1, .int g2, .int g3, .int g4, .ref g5, .int g6, .ref g7, .ref g8, .ref g9, .ref g10, .ref g11, .int g12, .int g13, .int g14, .ref g15, .int g16, .ref g17, .ref g18, .ref g19, .ref g20, .ref g21, .ref g22, .int g23, .ref g24, .int g25, .int g26, .int g27, .int g28, .ref g29, .int (nI bs0.length), .int g31, .int g32])), (g29, .inl (cB, 1400, .inl f0))] s.heap.size = A at hD ⊢
  have hA : ∀ q : Nat, s.heap.size ≤ q → A q := fun q h => by rw [← hAe]; exact Or.inr h
  have hS : va_S A s.heap s.heap [] := va_S.rf
  have hP : va_P (dC, dI) vcl [(h, .inr (1, [.int g0, .int g1, .int g2, .int g3, .int g4, .ref g5, .int g6, .ref g7, .ref g8, .ref g9, .ref g10, .ref g11, .int g12, .int g13, .int g14, .ref g15, .int g16, .ref g17, .ref g18, .ref g19, .ref g20, .ref g21, .ref g22, .int g23, .ref g24, .int g25, .int g26, .int g27, .int g28, .ref g29, .int (nI bs0.length), .int g31, .int g32])), (g29, .inl (cB, 1400, .inl f0))] s.heap := hP
  have hl := lv_entry ([.ref h, .long p0]) (n := 5) (Nat.le_of_ble_eq_true rfl)
  rw [lg_entry_eq]
  generalize (lg_sl ([.ref h, .long p0]) ++ List.replicate (5 - (lg_sl ([.ref h, .long p0])).length) Slot.unset).toArray = ls at hl ⊢
  have hl : lv_has ls 5 [(0, .ref h), (1, .long p0)] := hl
  refine lv_lload_n hx hb dd_M_layLetters_0 rfl (lv_at hl 1 rfl) ?_
  refine W.callR (W.runS (As := [.long p0]) (rest := []) ⟨hx, hb, hml, hown, hw⟩ (cp_M_letters l p0) (kw_S 1 hw qq_711 qq_5 qq_713 qq_712 rfl rfl (by decide +kernel) ⟨Nat.le_of_ble_eq_true rfl, Nat.le_of_ble_eq_true rfl⟩) ⟨fun a U g mk q => ⟨q.1, trivial⟩, fun U hU hW => ⟨rfl, trivial⟩⟩ rfl rfl hl.1 rfl (lv_room (Nat.le_of_ble_eq_true rfl)) dd_M_layLetters_1 ⟨by first | exact Nat.le_of_ble_eq_true rfl | (simp only [headSpec]; omega), by first | exact Nat.le_of_ble_eq_true rfl | (simp only [headSpec]; omega)⟩) ?_
  refine W.eq (g2 := F0 m 4 ls [.int (ltR true 0 (ltrs 8 p0))]) rfl ?_
  refine lv_topi (fun z_1 hz_1 => ?_)
  obtain rfl : z_1 = nI n := hz_1.trans ((by rw [hn]; simp [ltR]))
  refine lv_istore_n (lv' := [(3, .int (nI n)), (0, .ref h), (1, .long p0)]) hx hb dd_M_layLetters_4 rfl hl (by decide) rfl (fun ls hl => ?_)
  refine lv_aload_n hx hb dd_M_layLetters_5 rfl (lv_at hl 1 rfl) ?_
  refine lv_iload_n hx hb dd_M_layLetters_6 rfl (lv_at hl 0 rfl) ?_
  have hPc := hP.sub (ws' := [(h, .inr (1, [.int g0, .int g1, .int g2, .int g3, .int g4, .ref g5, .int g6, .ref g7, .ref g8, .ref g9, .ref g10, .ref g11, .int g12, .int g13, .int g14, .ref g15, .int g16, .ref g17, .ref g18, .ref g19, .ref g20, .ref g21, .ref g22, .int g23, .ref g24, .int g25, .int g26, .int g27, .int g28, .ref g29, .int (nI bs0.length), .int g31, .int g32])), (g29, .inl (cB, 1400, .inl f0))]) [0, 1] rfl
  have hDc := hD.sub (ws' := [(h, .inr (1, [.int g0, .int g1, .int g2, .int g3, .int g4, .ref g5, .int g6, .ref g7, .ref g8, .ref g9, .ref g10, .ref g11, .int g12, .int g13, .int g14, .ref g15, .int g16, .ref g17, .ref g18, .ref g19, .ref g20, .ref g21, .ref g22, .int g23, .ref g24, .int g25, .int g26, .int g27, .int g28, .ref g29, .int (nI bs0.length), .int g31, .int g32])), (g29, .inl (cB, 1400, .inl f0))]) [0, 1] (by decide) rfl
  have hFc := va_free (wc := [(h, .inr (1, [.int g0, .int g1, .int g2, .int g3, .int g4, .ref g5, .int g6, .ref g7, .ref g8, .ref g9, .ref g10, .ref g11, .int g12, .int g13, .int g14, .ref g15, .int g16, .ref g17, .ref g18, .ref g19, .ref g20, .ref g21, .ref g22, .int g23, .ref g24, .int g25, .int g26, .int g27, .int g28, .ref g29, .int (nI bs0.length), .int g31, .int g32])), (g29, .inl (cB, 1400, .inl f0))]) hD hS hA [0, 1] rfl
  refine va_callv (va_runV (As := [.int (nI n)]) (rest := []) ⟨hx, hb, hml, hown, hw⟩ (cb_M_lay l dC dI cB cI cJ s.heap.size h g0 g1 g2 g3 g4 g6 g12 g13 g14 g16 g23 g25 g26 g27 g28 g31 g32 g5 g7 g8 g9 g10 g11 g15 g17 g18 g19 g20 g21 g22 g24 g29 f0 bs0 hH (nI n) (by simp only [List.length_cons] at hRm; omega)) (kw_V 1 hw qq_735 qq_5 qq_738 qq_737 qs_M_lay rfl rfl (by decide +kernel) ⟨Nat.le_of_ble_eq_true rfl, Nat.le_of_ble_eq_true rfl⟩) ⟨fun a U g mk q => by obtain ⟨q0, q1, qP, qK, qD⟩ := q; exact ⟨q0, q1, qP, va_K.moved (u := U) (U := U.calling g mk a) (Vm.Alike.refl U.vm) qK, qD⟩, va_recv hK hPc (ci := 1) (q0 := 0) rfl rfl, fun U hU hW => ⟨rfl, by rw [hU], by rw [hU]; exact hPc, va_K.moved hW.alike hK, hDc.weaken (fun _ _ _ _ => trivial)⟩⟩ rfl rfl hl.1 rfl (lv_room (Nat.le_of_ble_eq_true rfl)) dd_M_layLetters_7 ⟨by first | exact Nat.le_of_ble_eq_true rfl | (simp only [headSpec]; omega), by first | exact Nat.le_of_ble_eq_true rfl | (simp only [headSpec]; omega)⟩) hS (fun q _ h => hFc q h) hFc (fun f_2 t H1 locs ht hvm hq_3 hB hz1 hk1 hS => ?_)
  obtain ⟨hP1, hK1, hD1⟩ := hB
  rw [ht] at hP1
  obtain ⟨hP, hD⟩ := va_join (wr := []) (w1 := [(h, .inr (1, [.int g0, .int g1, .int g2, .int g3, .int g4, .ref g5, .int g6, .ref g7, .ref g8, .ref g9, .ref g10, .ref g11, .int g12, .int g13, .int g14, .ref g15, .int g16, .ref g17, .ref g18, .ref g19, .ref g20, .ref g21, .ref g22, .int g23, .ref g24, .int g25, .int g26, .int g27, .int g28, .ref g29, .int (nI (bs0.length + 1)), .int g31, .int g32])), (g29, .inl (cB, 1400, .inl f_2))]) hP hD [0, 1] [] rfl rfl (by decide) (by decide) hk1 hFc hP1 hD1
  clear hP1 hK1 hD1 ht hvm hz1 hk1 hPc hDc hFc
  generalize H1 = H at hP hS ⊢
  have hP : va_P (dC, dI) vcl [(h, .inr (1, [.int g0, .int g1, .int g2, .int g3, .int g4, .ref g5, .int g6, .ref g7, .ref g8, .ref g9, .ref g10, .ref g11, .int g12, .int g13, .int g14, .ref g15, .int g16, .ref g17, .ref g18, .ref g19, .ref g20, .ref g21, .ref g22, .int g23, .ref g24, .int g25, .int g26, .int g27, .int g28, .ref g29, .int (nI (bs0.length + 1)), .int g31, .int g32])), (g29, .inl (cB, 1400, .inl f_2))] H := hP
  have hD : va_D A [(h, .inr (1, [.int g0, .int g1, .int g2, .int g3, .int g4, .ref g5, .int g6, .ref g7, .ref g8, .ref g9, .ref g10, .ref g11, .int g12, .int g13, .int g14, .ref g15, .int g16, .ref g17, .ref g18, .ref g19, .ref g20, .ref g21, .ref g22, .int g23, .ref g24, .int g25, .int g26, .int g27, .int g28, .ref g29, .int (nI (bs0.length + 1)), .int g31, .int g32])), (g29, .inl (cB, 1400, .inl f_2))] := hD
  have hq_3 : Hd (bs0 ++ [nI n]) f_2 := by rw [nI_255 (by have := ltrs_le 8 p0 n hn; omega)] at hq_3; exact hq_3
  have e_4 : nI (bs0.length + 1) = nI (bs0 ++ [nI n]).length := (by rw [List.length_append]; rfl)
  have hP : va_P (dC, dI) vcl [(h, .inr (1, [.int g0, .int g1, .int g2, .int g3, .int g4, .ref g5, .int g6, .ref g7, .ref g8, .ref g9, .ref g10, .ref g11, .int g12, .int g13, .int g14, .ref g15, .int g16, .ref g17, .ref g18, .ref g19, .ref g20, .ref g21, .ref g22, .int g23, .ref g24, .int g25, .int g26, .int g27, .int g28, .ref g29, .int (nI (bs0 ++ [nI n]).length), .int g31, .int g32])), (g29, .inl (cB, 1400, .inl f_2))] H := by rw [← e_4]; exact hP
  have hD : va_D A [(h, .inr (1, [.int g0, .int g1, .int g2, .int g3, .int g4, .ref g5, .int g6, .ref g7, .ref g8, .ref g9, .ref g10, .ref g11, .int g12, .int g13, .int g14, .ref g15, .int g16, .ref g17, .ref g18, .ref g19, .ref g20, .ref g21, .ref g22, .int g23, .ref g24, .int g25, .int g26, .int g27, .int g28, .ref g29, .int (nI (bs0 ++ [nI n]).length), .int g31, .int g32])), (g29, .inl (cB, 1400, .inl f_2))] := by rw [← e_4]; exact hD
  refine lv_iload_n hx hb dd_M_layLetters_10 rfl (lv_at hl 0 rfl) ?_
  refine lv_iconst (v := 1) hx hb dd_M_layLetters_11 (by decide) ?_
  refine lv_isub hx hb dd_M_layLetters_12 ?_
  refine lv_istore (lv' := [(4, .int ((nI n) - 1)), (3, .int (nI n)), (0, .ref h), (1, .long p0)]) hx hb dd_M_layLetters_13 hl (by decide) rfl (fun ls hl => ?_)
  have lp_5 : ∀ (k : Nat) (bs : List Int32) (f : Nat → Int32), Hd bs f → bs0 ++ nI n :: encLk n p0 = bs ++ encLk k p0 → bs.length + (encLk k p0).length ≤ 1400 → k ≤ 8 → ∀ (H : Heap) (locs : List Loc), va_P (dC, dI) vcl [(h, .inr (1, [.int g0, .int g1, .int g2, .int g3, .int g4, .ref g5, .int g6, .ref g7, .ref g8, .ref g9, .ref g10, .ref g11, .int g12, .int g13, .int g14, .ref g15, .int g16, .ref g17, .ref g18, .ref g19, .ref g20, .ref g21, .ref g22, .int g23, .ref g24, .int g25, .int g26, .int g27, .int g28, .ref g29, .int (nI bs.length), .int g31, .int g32])), (g29, .inl (cB, 1400, .inl f))] H → va_D A [(h, .inr (1, [.int g0, .int g1, .int g2, .int g3, .int g4, .ref g5, .int g6, .ref g7, .ref g8, .ref g9, .ref g10, .ref g11, .int g12, .int g13, .int g14, .ref g15, .int g16, .ref g17, .ref g18, .ref g19, .ref g20, .ref g21, .ref g22, .int g23, .ref g24, .int g25, .int g26, .int g27, .int g28, .ref g29, .int (nI bs.length), .int g31, .int g32])), (g29, .inl (cB, 1400, .inl f))] → va_S A s.heap H locs → ∀ ls : Array Slot, lv_has ls 5 [(0, .ref h), (1, .long p0), (3, .int (nI n)), (4, .int (nI k - 1))] → W p l e (headSpec (Cond.code yy_M_layLetters cc_M_layLetters 5 none :: gw) { frames := 1, cells := 0, slots := 0, locals := 26 }).room s m ([.ref h, .long p0] : List Value).toArray below meth c H locs 0 0 (MQ below (va_Qv (fun (u : Nat → Int32) => Hd (bs0 ++ nI n :: encLk n p0) u) (fun (u : Nat → Int32) => ks_post dC dI [(cB, .byte), (cI, .int), (cJ, .long)] A [(h, .inr (1, [.int g0, .int g1, .int g2, .int g3, .int g4, .ref g5, .int g6, .ref g7, .ref g8, .ref g9, .ref g10, .ref g11, .int g12, .int g13, .int g14, .ref g15, .int g16, .ref g17, .ref g18, .ref g19, .ref g20, .ref g21, .ref g22, .int g23, .ref g24, .int g25, .int g26, .int g27, .int g28, .ref g29, .int (nI (bs0 ++ nI n :: encLk n p0).length), .int g31, .int g32])), (g29, .inl (cB, 1400, .inl u))]) A) ([.ref h, .long p0] : List Value).toArray s 0 0 A) (F0 m 15 ls []) := by
    intro k
    induction k with
    | zero =>
      intro bs f hH hU hRm hk8 H locs hP hD hS ls hl
      refine lv_iload hx hb dd_M_layLetters_15 (lv_at hl 3 rfl) ?_
      refine lv_if_lt (tgt := 42) hx hb dd_M_layLetters_17 (by decide) (fun c_6 => ?_) (fun c_6 => ?_)
      · have hfin : bs = bs0 ++ nI n :: encLk n p0 := by rw [hU, encLk, List.append_nil]
        have e_7 : nI bs.length = nI (bs0 ++ nI n :: encLk n p0).length := (by rw [hfin])
        have hP : va_P (dC, dI) vcl [(h, .inr (1, [.int g0, .int g1, .int g2, .int g3, .int g4, .ref g5, .int g6, .ref g7, .ref g8, .ref g9, .ref g10, .ref g11, .int g12, .int g13, .int g14, .ref g15, .int g16, .ref g17, .ref g18, .ref g19, .ref g20, .ref g21, .ref g22, .int g23, .ref g24, .int g25, .int g26, .int g27, .int g28, .ref g29, .int (nI (bs0 ++ nI n :: encLk n p0).length), .int g31, .int g32])), (g29, .inl (cB, 1400, .inl f))] H := by rw [← e_7]; exact hP
        have hD : va_D A [(h, .inr (1, [.int g0, .int g1, .int g2, .int g3, .int g4, .ref g5, .int g6, .ref g7, .ref g8, .ref g9, .ref g10, .ref g11, .int g12, .int g13, .int g14, .ref g15, .int g16, .ref g17, .ref g18, .ref g19, .ref g20, .ref g21, .ref g22, .int g23, .ref g24, .int g25, .int g26, .int g27, .int g28, .ref g29, .int (nI (bs0 ++ nI n :: encLk n p0).length), .int g31, .int g32])), (g29, .inl (cB, 1400, .inl f))] := by rw [← e_7]; exact hD
        have hP9 := hP.sub (ws' := [(h, .inr (1, [.int g0, .int g1, .int g2, .int g3, .int g4, .ref g5, .int g6, .ref g7, .ref g8, .ref g9, .ref g10, .ref g11, .int g12, .int g13, .int g14, .ref g15, .int g16, .ref g17, .ref g18, .ref g19, .ref g20, .ref g21, .ref g22, .int g23, .ref g24, .int g25, .int g26, .int g27, .int g28, .ref g29, .int (nI (bs0 ++ nI n :: encLk n p0).length), .int g31, .int g32])), (g29, .inl (cB, 1400, .inl f))]) [0, 1] rfl
        have hD9 := hD.sub (ws' := [(h, .inr (1, [.int g0, .int g1, .int g2, .int g3, .int g4, .ref g5, .int g6, .ref g7, .ref g8, .ref g9, .ref g10, .ref g11, .int g12, .int g13, .int g14, .ref g15, .int g16, .ref g17, .ref g18, .ref g19, .ref g20, .ref g21, .ref g22, .int g23, .ref g24, .int g25, .int g26, .int g27, .int g28, .ref g29, .int (nI (bs0 ++ nI n :: encLk n p0).length), .int g31, .int g32])), (g29, .inl (cB, 1400, .inl f))]) [0, 1] (by decide) rfl
        refine W.widen (k := 0) (n := 0) (by first | exact Nat.le_refl _ | omega) (by first | exact Nat.le_refl _ | omega) ?_
        exact W.vret hx hb hr (fun t ht hW => ⟨⟨f, rfl, (by rw [← hfin]; exact hH), by rw [ht]; exact hP9, va_K.moved hW.alike hK, hD9⟩, hS.F ht⟩) hS.2.2 dd_M_layLetters_42
      · exact absurd (by decide) c_6
    | succ k ih =>
      intro bs f hH hU hRm hk8 H locs hP hD hS ls hl
      have e_8 : nI (k + 1) - 1 = nI k := nI_sm
      have hl : lv_has ls 5 [(0, .ref h), (1, .long p0), (3, .int (nI n)), (4, .int (nI k))] := by rw [← e_8]; exact hl
      refine lv_iload hx hb dd_M_layLetters_15 (lv_at hl 3 rfl) ?_
      refine lv_if_lt (tgt := 42) hx hb dd_M_layLetters_17 (by decide) (fun c_9 => ?_) (fun c_9 => ?_)
      · exact absurd c_9 (nI_pos (by omega))
      · refine lv_aload_n hx hb dd_M_layLetters_20 rfl (lv_at hl 0 rfl) ?_
        refine lv_lload_n hx hb dd_M_layLetters_21 rfl (lv_at hl 1 rfl) ?_
        refine lv_bipush (v := 8) hx hb dd_M_layLetters_22 (by decide) ?_
        refine lv_iload hx hb dd_M_layLetters_24 (lv_at hl 3 rfl) ?_
        refine lv_imul hx hb dd_M_layLetters_26 ?_
        refine lv_topi (fun z_10 hz_10 => ?_)
        obtain rfl : z_10 = nI (8 * k) := hz_10.trans (pk_mul 8 k)
        refine lv_lshr (v := p0 >>> ((nI (8 * k)).toInt64 &&& 63)) hx hb dd_M_layLetters_27 rfl ?_
        refine lv_ldc2 (v := 255) hx hb hown (hw _ qq_714) dd_M_layLetters_28 ?_
        refine lv_land hx hb dd_M_layLetters_31 ?_
        refine lv_l2i (v := ((p0 >>> ((nI (8 * k)).toInt64 &&& 63)) &&& 255).toInt32) hx hb dd_M_layLetters_32 rfl ?_
        have hPc := hP.sub (ws' := [(h, .inr (1, [.int g0, .int g1, .int g2, .int g3, .int g4, .ref g5, .int g6, .ref g7, .ref g8, .ref g9, .ref g10, .ref g11, .int g12, .int g13, .int g14, .ref g15, .int g16, .ref g17, .ref g18, .ref g19, .ref g20, .ref g21, .ref g22, .int g23, .ref g24, .int g25, .int g26, .int g27, .int g28, .ref g29, .int (nI bs.length), .int g31, .int g32])), (g29, .inl (cB, 1400, .inl f))]) [0, 1] rfl
        have hDc := hD.sub (ws' := [(h, .inr (1, [.int g0, .int g1, .int g2, .int g3, .int g4, .ref g5, .int g6, .ref g7, .ref g8, .ref g9, .ref g10, .ref g11, .int g12, .int g13, .int g14, .ref g15, .int g16, .ref g17, .ref g18, .ref g19, .ref g20, .ref g21, .ref g22, .int g23, .ref g24, .int g25, .int g26, .int g27, .int g28, .ref g29, .int (nI bs.length), .int g31, .int g32])), (g29, .inl (cB, 1400, .inl f))]) [0, 1] (by decide) rfl
        have hFc := va_free (wc := [(h, .inr (1, [.int g0, .int g1, .int g2, .int g3, .int g4, .ref g5, .int g6, .ref g7, .ref g8, .ref g9, .ref g10, .ref g11, .int g12, .int g13, .int g14, .ref g15, .int g16, .ref g17, .ref g18, .ref g19, .ref g20, .ref g21, .ref g22, .int g23, .ref g24, .int g25, .int g26, .int g27, .int g28, .ref g29, .int (nI bs.length), .int g31, .int g32])), (g29, .inl (cB, 1400, .inl f))]) hD hS hA [0, 1] rfl
        refine va_callv (va_runV (As := [.int (((p0 >>> ((nI (8 * k)).toInt64 &&& 63)) &&& 255).toInt32)]) (rest := []) ⟨hx, hb, hml, hown, hw⟩ (cb_M_lay l dC dI cB cI cJ H.size h g0 g1 g2 g3 g4 g6 g12 g13 g14 g16 g23 g25 g26 g27 g28 g31 g32 g5 g7 g8 g9 g10 g11 g15 g17 g18 g19 g20 g21 g22 g24 g29 f bs hH (((p0 >>> ((nI (8 * k)).toInt64 &&& 63)) &&& 255).toInt32) (by rw [encLk_len] at hRm; omega)) (kw_V 1 hw qq_735 qq_5 qq_738 qq_737 qs_M_lay rfl rfl (by decide +kernel) ⟨Nat.le_of_ble_eq_true rfl, Nat.le_of_ble_eq_true rfl⟩) ⟨fun a U g mk q => by obtain ⟨q0, q1, qP, qK, qD⟩ := q; exact ⟨q0, q1, qP, va_K.moved (u := U) (U := U.calling g mk a) (Vm.Alike.refl U.vm) qK, qD⟩, va_recv hK hPc (ci := 1) (q0 := 0) rfl rfl, fun U hU hW => ⟨rfl, by rw [hU], by rw [hU]; exact hPc, va_K.moved hW.alike hK, hDc.weaken (fun _ _ _ _ => trivial)⟩⟩ rfl rfl hl.1 rfl (lv_room (Nat.le_of_ble_eq_true rfl)) dd_M_layLetters_33 ⟨by first | exact Nat.le_of_ble_eq_true rfl | (simp only [headSpec]; omega), by first | exact Nat.le_of_ble_eq_true rfl | (simp only [headSpec]; omega)⟩) hS (fun q _ h => hFc q h) hFc (fun f_11 t H1 locs ht hvm hq_12 hB hz1 hk1 hS => ?_)
        obtain ⟨hP1, hK1, hD1⟩ := hB
        rw [ht] at hP1
        obtain ⟨hP, hD⟩ := va_join (wr := []) (w1 := [(h, .inr (1, [.int g0, .int g1, .int g2, .int g3, .int g4, .ref g5, .int g6, .ref g7, .ref g8, .ref g9, .ref g10, .ref g11, .int g12, .int g13, .int g14, .ref g15, .int g16, .ref g17, .ref g18, .ref g19, .ref g20, .ref g21, .ref g22, .int g23, .ref g24, .int g25, .int g26, .int g27, .int g28, .ref g29, .int (nI (bs.length + 1)), .int g31, .int g32])), (g29, .inl (cB, 1400, .inl f_11))]) hP hD [0, 1] [] rfl rfl (by decide) (by decide) hk1 hFc hP1 hD1
        clear hP1 hK1 hD1 ht hvm hz1 hk1 hPc hDc hFc
        generalize H1 = H at hP hS ⊢
        have hP : va_P (dC, dI) vcl [(h, .inr (1, [.int g0, .int g1, .int g2, .int g3, .int g4, .ref g5, .int g6, .ref g7, .ref g8, .ref g9, .ref g10, .ref g11, .int g12, .int g13, .int g14, .ref g15, .int g16, .ref g17, .ref g18, .ref g19, .ref g20, .ref g21, .ref g22, .int g23, .ref g24, .int g25, .int g26, .int g27, .int g28, .ref g29, .int (nI (bs.length + 1)), .int g31, .int g32])), (g29, .inl (cB, 1400, .inl f_11))] H := hP
        have hD : va_D A [(h, .inr (1, [.int g0, .int g1, .int g2, .int g3, .int g4, .ref g5, .int g6, .ref g7, .ref g8, .ref g9, .ref g10, .ref g11, .int g12, .int g13, .int g14, .ref g15, .int g16, .ref g17, .ref g18, .ref g19, .ref g20, .ref g21, .ref g22, .int g23, .ref g24, .int g25, .int g26, .int g27, .int g28, .ref g29, .int (nI (bs.length + 1)), .int g31, .int g32])), (g29, .inl (cB, 1400, .inl f_11))] := hD
        have hq_12 : Hd (bs ++ [ltb p0 k]) f_11 := by rw [ltb_sar p0 k (by omega)] at hq_12; exact hq_12
        have e_13 : nI (bs.length + 1) = nI (bs ++ [ltb p0 k]).length := (by rw [List.length_append]; rfl)
        have hP : va_P (dC, dI) vcl [(h, .inr (1, [.int g0, .int g1, .int g2, .int g3, .int g4, .ref g5, .int g6, .ref g7, .ref g8, .ref g9, .ref g10, .ref g11, .int g12, .int g13, .int g14, .ref g15, .int g16, .ref g17, .ref g18, .ref g19, .ref g20, .ref g21, .ref g22, .int g23, .ref g24, .int g25, .int g26, .int g27, .int g28, .ref g29, .int (nI (bs ++ [ltb p0 k]).length), .int g31, .int g32])), (g29, .inl (cB, 1400, .inl f_11))] H := by rw [← e_13]; exact hP
        have hD : va_D A [(h, .inr (1, [.int g0, .int g1, .int g2, .int g3, .int g4, .ref g5, .int g6, .ref g7, .ref g8, .ref g9, .ref g10, .ref g11, .int g12, .int g13, .int g14, .ref g15, .int g16, .ref g17, .ref g18, .ref g19, .ref g20, .ref g21, .ref g22, .int g23, .ref g24, .int g25, .int g26, .int g27, .int g28, .ref g29, .int (nI (bs ++ [ltb p0 k]).length), .int g31, .int g32])), (g29, .inl (cB, 1400, .inl f_11))] := by rw [← e_13]; exact hD
        refine lv_iinc (v := (nI k) + (-1)) (lv' := [(4, .int ((nI k) + (-1))), (0, .ref h), (1, .long p0), (3, .int (nI n))]) hx hb dd_M_layLetters_36 hl (k := 3) rfl rfl (by decide) rfl (fun ls hl => ?_)
        refine lv_goto (tgt := 15) hx hb dd_M_layLetters_39 (by decide) ?_
        have e_14 : (nI k) + (-1) = nI k - 1 := i32_m1 (nI k)
        have hl : lv_has ls 5 [(4, .int (nI k - 1)), (0, .ref h), (1, .long p0), (3, .int (nI n))] := by rw [← e_14]; exact hl
        exact ih (bs ++ [ltb p0 k]) f_11 hq_12 (by rw [hU, encLk, List.append_assoc]; rfl) (by rw [encLk] at hRm; simp only [List.length_append, List.length_cons, List.length_nil] at hRm ⊢; omega) (by omega) _ _ hP hD hS _ (lv_sub hl [1, 2, 3, 0] rfl)
  exact lp_5 n (bs0 ++ [nI n]) f_2 hq_3 (by rw [List.append_assoc]; rfl) (by simp only [List.length_append, List.length_cons, List.length_nil] at hRm ⊢; omega) (ltrs_le 8 p0 n hn) _ _ hP hD hS _ (lv_sub hl [2, 3, 1, 0] rfl)

set_option maxHeartbeats 4000000 in
set_option maxRecDepth 100000 in
/-- layRef(k, id) -/
theorem cb_M_layRef (l : Launch) (dC : Nat → ClassId) (dI : Nat → Nat → Nat) (cB cI cJ : ClassId) (sz : Nat) (h : Nat) (g0 g1 g2 g3 g6 g12 g13 g14 g16 g23 g25 g26 g27 g28 g31 g32 : Int32) (g5 g7 g8 g9 g10 g11 g15 g17 g18 g19 g20 g21 g22 g24 g29 : Nat) (f0 : Nat → Int32) (bs0 : List Int32) (hH : Hd bs0 f0) (cn kk i : Nat) (hc : cn + kk ≤ 200000) (hi : i < 2147483648) (hic : i / 8 ≤ cn + kk) (hRm : bs0.length + (encUf 4 (refN (cn + kk) i)).length ≤ 1400) : Met l yy_M_layRef (Cond.code yy_M_layRef cc_M_layRef 3 none :: gw) { frames := 2, cells := 0, slots := 0, locals := 43 } (va_Pc [.ref h, .int (nI kk), .int (nI i)] (ks_pre dC dI [(cB, .byte), (cI, .int), (cJ, .long)] [(h, .inr (1, [.int g0, .int g1, .int g2, .int g3, .int (nI cn), .ref g5, .int g6, .ref g7, .ref g8, .ref g9, .ref g10, .ref g11, .int g12, .int g13, .int g14, .ref g15, .int g16, .ref g17, .ref g18, .ref g19, .ref g20, .ref g21, .ref g22, .int g23, .ref g24, .int g25, .int g26, .int g27, .int g28, .ref g29, .int (nI bs0.length), .int g31, .int g32])), (g29, .inl (cB, 1400, .inl f0))] sz)) (va_Qv (fun (u : Nat → Int32) => Hd (bs0 ++ encUf 4 (refN (cn + kk) i)) u) (fun (u : Nat → Int32) => ks_post dC dI [(cB, .byte), (cI, .int), (cJ, .long)] (va_A [(h, .inr (1, [.int g0, .int g1, .int g2, .int g3, .int (nI cn), .ref g5, .int g6, .ref g7, .ref g8, .ref g9, .ref g10, .ref g11, .int g12, .int g13, .int g14, .ref g15, .int g16, .ref g17, .ref g18, .ref g19, .ref g20, .ref g21, .ref g22, .int g23, .ref g24, .int g25, .int g26, .int g27, .int g28, .ref g29, .int (nI bs0.length), .int g31, .int g32])), (g29, .inl (cB, 1400, .inl f0))] sz) [(h, .inr (1, [.int g0, .int g1, .int g2, .int g3, .int (nI cn), .ref g5, .int g6, .ref g7, .ref g8, .ref g9, .ref g10, .ref g11, .int g12, .int g13, .int g14, .ref g15, .int g16, .ref g17, .ref g18, .ref g19, .ref g20, .ref g21, .ref g22, .int g23, .ref g24, .int g25, .int g26, .int g27, .int g28, .ref g29, .int (nI (bs0 ++ encUf 4 (refN (cn + kk) i)).length), .int g31, .int g32])), (g29, .inl (cB, 1400, .inl u))]) (va_A [(h, .inr (1, [.int g0, .int g1, .int g2, .int g3, .int (nI cn), .ref g5, .int g6, .ref g7, .ref g8, .ref g9, .ref g10, .ref g11, .int g12, .int g13, .int g14, .ref g15, .int g16, .ref g17, .ref g18, .ref g19, .ref g20, .ref g21, .ref g22, .int g23, .ref g24, .int g25, .int g26, .int g27, .int g28, .ref g29, .int (nI bs0.length), .int g31, .int g32])), (g29, .inl (cB, 1400, .inl f0))] sz)) 0 0 (va_A [(h, .inr (1, [.int g0, .int g1, .int g2, .int g3, .int (nI cn), .ref g5, .int g6, .ref g7, .ref g8, .ref g9, .ref g10, .ref g11, .int g12, .int g13, .int g14, .ref g15, .int g16, .ref g17, .ref g18, .ref g19, .ref g20, .ref g21, .ref g22, .int g23, .ref g24, .int g25, .int g26, .int g27, .int g28, .ref g29, .int (nI bs0.length), .int g31, .int g32])), (g29, .inl (cB, 1400, .inl f0))] sz) := by
  refine Met.ofW (cc := cc_M_layRef) (maxL := 3) (ret := none) (by decide) rfl ?_
  intro p e s m args below meth c s₁ B hml hv
  obtain ⟨rfl, hsz, hP, hK, hD0⟩ := hv
  have hx := B.exec
  have hb := B.bytes
  have hr := B.returns
  have hw : ∀ w ∈ gw, w.before _ s = true := fun w h => atoms_spec (ws := (Cond.code yy_M_layRef cc_M_layRef 3 none :: gw)) B.pre w (List.mem_cons_of_mem _ h)
  have hown : s.vm.findClass RR_M = some m.cls := findClass_of_methodNamed B.named
  have hlocks := B.notSynchronized
  subst hsz
  have hD := hD0.self (sz := s.heap.size)
  generalize hAe : va_A [(h, .inr (1, [.int g0, .int g1, .int g2, .int g3, .int (nI cn), .ref g5, .int g6, .ref g7, .ref g8, .ref g9, .ref g10, .ref g11, .int g12, .int g13, .int g14, .ref g15, .int g16, .ref g17, .ref g18, .ref g19, .ref g20, .ref g21, .ref g22, .int g23, .ref g24, .int g25, .int g26, .int g27, .int g28, .ref g29, .int (nI bs0.length), .int g31, .int g32])), (g29, .inl (cB, 1400, .inl f0))] s.heap.size = A at hD ⊢
  have hA : ∀ q : Nat, s.heap.size ≤ q → A q := fun q h => by rw [← hAe]; exact Or.inr h
  have hS : va_S A s.heap s.heap [] := va_S.rf
  have hP : va_P (dC, dI) vcl [(h, .inr (1, [.int g0, .int g1, .int g2, .int g3, .int (nI cn), .ref g5, .int g6, .ref g7, .ref g8, .ref g9, .ref g10, .ref g11, .int g12, .int g13, .int g14, .ref g15, .int g16, .ref g17, .ref g18, .ref g19, .ref g20, .ref g21, .ref g22, .int g23, .ref g24, .int g25, .int g26, .int g27, .int g28, .ref g29, .int (nI bs0.length), .int g31, .int g32])), (g29, .inl (cB, 1400, .inl f0))] s.heap := hP
  have hl := lv_entry ([.ref h, .int (nI kk), .int (nI i)]) (n := 3) (Nat.le_of_ble_eq_true rfl)
  rw [lg_entry_eq]
  generalize (lg_sl ([.ref h, .int (nI kk), .int (nI i)]) ++ List.replicate (3 - (lg_sl ([.ref h, .int (nI kk), .int (nI i)])).length) Slot.unset).toArray = ls at hl ⊢
  have hl : lv_has ls 3 [(0, .ref h), (1, .int (nI kk)), (2, .int (nI i))] := hl
  refine lv_iload_n hx hb dd_M_layRef_0 rfl (lv_at hl 2 rfl) ?_
  refine lv_if_ne (tgt := 12) hx hb dd_M_layRef_1 (by decide) (fun c_1 => ?_) (fun c_1 => ?_)
  · have hi0 : ¬ i = 0 := fun z => c_1 (by rw [z]; rfl)
    refine lv_aload_n hx hb dd_M_layRef_12 rfl (lv_at hl 0 rfl) ?_
    refine lv_aload_n hx hb dd_M_layRef_13 rfl (lv_at hl 0 rfl) ?_
    refine va_get (D := (dC, dI)) (ci := 1) (v := .int (nI cn)) (C := RR_M) (T := TT_M) (N := 33) hx hb hw hh_M hown hK hP 0 rfl rfl 4 (by decide) (hw _ qq_583) (fun _ h9 => h9) rfl dd_M_layRef_14 ?_
    refine lv_iload_n hx hb dd_M_layRef_17 rfl (lv_at hl 1 rfl) ?_
    refine lv_iadd hx hb dd_M_layRef_18 ?_
    refine lv_iload_n hx hb dd_M_layRef_19 rfl (lv_at hl 2 rfl) ?_
    refine lv_bipush (v := 8) hx hb dd_M_layRef_20 (by decide) ?_
    refine lv_idiv hx hb dd_M_layRef_22 (by decide) ?_
    refine lv_isub hx hb dd_M_layRef_23 ?_
    refine lv_bipush (v := 8) hx hb dd_M_layRef_24 (by decide) ?_
    refine lv_imul hx hb dd_M_layRef_26 ?_
    refine lv_iload_n hx hb dd_M_layRef_27 rfl (lv_at hl 2 rfl) ?_
    refine lv_bipush (v := 8) hx hb dd_M_layRef_28 (by decide) ?_
    refine lv_irem hx hb dd_M_layRef_30 (by decide) ?_
    refine lv_iadd hx hb dd_M_layRef_31 ?_
    refine lv_iconst (v := 1) hx hb dd_M_layRef_32 (by decide) ?_
    refine lv_iadd hx hb dd_M_layRef_33 ?_
    refine lv_topi (fun z_2 hz_2 => ?_)
    obtain rfl : z_2 = nI (refN (cn + kk) i) := hz_2.trans ((by rw [nI_add, show (8 : Int32) = nI 8 from rfl, pk_rem (by omega) (by decide) (by decide), pk_div (by omega) (by decide) (by decide), pk_sub (by omega), pk_mul, nI_add, nI_1, refN, if_neg hi0]))
    have hPc := hP.sub (ws' := [(h, .inr (1, [.int g0, .int g1, .int g2, .int g3, .int (nI cn), .ref g5, .int g6, .ref g7, .ref g8, .ref g9, .ref g10, .ref g11, .int g12, .int g13, .int g14, .ref g15, .int g16, .ref g17, .ref g18, .ref g19, .ref g20, .ref g21, .ref g22, .int g23, .ref g24, .int g25, .int g26, .int g27, .int g28, .ref g29, .int (nI bs0.length), .int g31, .int g32])), (g29, .inl (cB, 1400, .inl f0))]) [0, 1] rfl
    have hDc := hD.sub (ws' := [(h, .inr (1, [.int g0, .int g1, .int g2, .int g3, .int (nI cn), .ref g5, .int g6, .ref g7, .ref g8, .ref g9, .ref g10, .ref g11, .int g12, .int g13, .int g14, .ref g15, .int g16, .ref g17, .ref g18, .ref g19, .ref g20, .ref g21, .ref g22, .int g23, .ref g24, .int g25, .int g26, .int g27, .int g28, .ref g29, .int (nI bs0.length), .int g31, .int g32])), (g29, .inl (cB, 1400, .inl f0))]) [0, 1] (by decide) rfl
    have hFc := va_free (wc := [(h, .inr (1, [.int g0, .int g1, .int g2, .int g3, .int (nI cn), .ref g5, .int g6, .ref g7, .ref g8, .ref g9, .ref g10, .ref g11, .int g12, .int g13, .int g14, .ref g15, .int g16, .ref g17, .ref g18, .ref g19, .ref g20, .ref g21, .ref g22, .int g23, .ref g24, .int g25, .int g26, .int g27, .int g28, .ref g29, .int (nI bs0.length), .int g31, .int g32])), (g29, .inl (cB, 1400, .inl f0))]) hD hS hA [0, 1] rfl
    refine va_callv (va_runV (As := [.int (nI (refN (cn + kk) i))]) (rest := []) ⟨hx, hb, hml, hown, hw⟩ (cb_M_layU l dC dI cB cI cJ s.heap.size h g0 g1 g2 g3 (nI cn) g6 g12 g13 g14 g16 g23 g25 g26 g27 g28 g31 g32 g5 g7 g8 g9 g10 g11 g15 g17 g18 g19 g20 g21 g22 g24 g29 f0 bs0 hH (refN (cn + kk) i) (refN_lt hc) hRm) (kw_V 1 hw qq_739 qq_5 qq_742 qq_741 qs_M_layU rfl rfl (by decide +kernel) ⟨Nat.le_of_ble_eq_true rfl, Nat.le_of_ble_eq_true rfl⟩) ⟨fun a U g mk q => by obtain ⟨q0, q1, qP, qK, qD⟩ := q; exact ⟨q0, q1, qP, va_K.moved (u := U) (U := U.calling g mk a) (Vm.Alike.refl U.vm) qK, qD⟩, va_recv hK hPc (ci := 1) (q0 := 0) rfl rfl, fun U hU hW => ⟨rfl, by rw [hU], by rw [hU]; exact hPc, va_K.moved hW.alike hK, hDc.weaken (fun _ _ _ _ => trivial)⟩⟩ rfl rfl hl.1 rfl (lv_room (Nat.le_of_ble_eq_true rfl)) dd_M_layRef_34 ⟨by first | exact Nat.le_of_ble_eq_true rfl | (simp only [headSpec]; omega), by first | exact Nat.le_of_ble_eq_true rfl | (simp only [headSpec]; omega)⟩) hS (fun q _ h => hFc q h) hFc (fun f_3 t H1 locs ht hvm hq_4 hB hz1 hk1 hS => ?_)
    obtain ⟨hP1, hK1, hD1⟩ := hB
    rw [ht] at hP1
    obtain ⟨hP, hD⟩ := va_join (wr := []) (w1 := [(h, .inr (1, [.int g0, .int g1, .int g2, .int g3, .int (nI cn), .ref g5, .int g6, .ref g7, .ref g8, .ref g9, .ref g10, .ref g11, .int g12, .int g13, .int g14, .ref g15, .int g16, .ref g17, .ref g18, .ref g19, .ref g20, .ref g21, .ref g22, .int g23, .ref g24, .int g25, .int g26, .int g27, .int g28, .ref g29, .int (nI (bs0 ++ encUf 4 (refN (cn + kk) i)).length), .int g31, .int g32])), (g29, .inl (cB, 1400, .inl f_3))]) hP hD [0, 1] [] rfl rfl (by decide) (by decide) hk1 hFc hP1 hD1
    clear hP1 hK1 hD1 ht hvm hz1 hk1 hPc hDc hFc
    generalize H1 = H at hP hS ⊢
    have hP : va_P (dC, dI) vcl [(h, .inr (1, [.int g0, .int g1, .int g2, .int g3, .int (nI cn), .ref g5, .int g6, .ref g7, .ref g8, .ref g9, .ref g10, .ref g11, .int g12, .int g13, .int g14, .ref g15, .int g16, .ref g17, .ref g18, .ref g19, .ref g20, .ref g21, .ref g22, .int g23, .ref g24, .int g25, .int g26, .int g27, .int g28, .ref g29, .int (nI (bs0 ++ encUf 4 (refN (cn + kk) i)).length), .int g31, .int g32])), (g29, .inl (cB, 1400, .inl f_3))] H := hP
    have hD : va_D A [(h, .inr (1, [.int g0, .int g1, .int g2, .int g3, .int (nI cn), .ref g5, .int g6, .ref g7, .ref g8, .ref g9, .ref g10, .ref g11, .int g12, .int g13, .int g14, .ref g15, .int g16, .ref g17, .ref g18, .ref g19, .ref g20, .ref g21, .ref g22, .int g23, .ref g24, .int g25, .int g26, .int g27, .int g28, .ref g29, .int (nI (bs0 ++ encUf 4 (refN (cn + kk) i)).length), .int g31, .int g32])), (g29, .inl (cB, 1400, .inl f_3))] := hD
    have hP9 := hP.sub (ws' := [(h, .inr (1, [.int g0, .int g1, .int g2, .int g3, .int (nI cn), .ref g5, .int g6, .ref g7, .ref g8, .ref g9, .ref g10, .ref g11, .int g12, .int g13, .int g14, .ref g15, .int g16, .ref g17, .ref g18, .ref g19, .ref g20, .ref g21, .ref g22, .int g23, .ref g24, .int g25, .int g26, .int g27, .int g28, .ref g29, .int (nI (bs0 ++ encUf 4 (refN (cn + kk) i)).length), .int g31, .int g32])), (g29, .inl (cB, 1400, .inl f_3))]) [0, 1] rfl
    have hD9 := hD.sub (ws' := [(h, .inr (1, [.int g0, .int g1, .int g2, .int g3, .int (nI cn), .ref g5, .int g6, .ref g7, .ref g8, .ref g9, .ref g10, .ref g11, .int g12, .int g13, .int g14, .ref g15, .int g16, .ref g17, .ref g18, .ref g19, .ref g20, .ref g21, .ref g22, .int g23, .ref g24, .int g25, .int g26, .int g27, .int g28, .ref g29, .int (nI (bs0 ++ encUf 4 (refN (cn + kk) i)).length), .int g31, .int g32])), (g29, .inl (cB, 1400, .inl f_3))]) [0, 1] (by decide) rfl
    refine W.widen (k := 0) (n := 0) (by first | exact Nat.le_refl _ | omega) (by first | exact Nat.le_refl _ | omega) ?_
    exact W.vret hx hb hr (fun t ht hW => ⟨⟨f_3, rfl, hq_4, by rw [ht]; exact hP9, va_K.moved hW.alike hK, hD9⟩, hS.F ht⟩) hS.2.2 dd_M_layRef_37
  · have hi0 : i = 0 := Classical.byContradiction (fun z => nI_ne0 (by omega) (by omega) c_1)
    refine lv_aload_n hx hb dd_M_layRef_4 rfl (lv_at hl 0 rfl) ?_
    refine lv_iconst (v := 0) hx hb dd_M_layRef_5 (by decide) ?_
    have hPc := hP.sub (ws' := [(h, .inr (1, [.int g0, .int g1, .int g2, .int g3, .int (nI cn), .ref g5, .int g6, .ref g7, .ref g8, .ref g9, .ref g10, .ref g11, .int g12, .int g13, .int g14, .ref g15, .int g16, .ref g17, .ref g18, .ref g19, .ref g20, .ref g21, .ref g22, .int g23, .ref g24, .int g25, .int g26, .int g27, .int g28, .ref g29, .int (nI bs0.length), .int g31, .int g32])), (g29, .inl (cB, 1400, .inl f0))]) [0, 1] rfl
    have hDc := hD.sub (ws' := [(h, .inr (1, [.int g0, .int g1, .int g2, .int g3, .int (nI cn), .ref g5, .int g6, .ref g7, .ref g8, .ref g9, .ref g10, .ref g11, .int g12, .int g13, .int g14, .ref g15, .int g16, .ref g17, .ref g18, .ref g19, .ref g20, .ref g21, .ref g22, .int g23, .ref g24, .int g25, .int g26, .int g27, .int g28, .ref g29, .int (nI bs0.length), .int g31, .int g32])), (g29, .inl (cB, 1400, .inl f0))]) [0, 1] (by decide) rfl
    have hFc := va_free (wc := [(h, .inr (1, [.int g0, .int g1, .int g2, .int g3, .int (nI cn), .ref g5, .int g6, .ref g7, .ref g8, .ref g9, .ref g10, .ref g11, .int g12, .int g13, .int g14, .ref g15, .int g16, .ref g17, .ref g18, .ref g19, .ref g20, .ref g21, .ref g22, .int g23, .ref g24, .int g25, .int g26, .int g27, .int g28, .ref g29, .int (nI bs0.length), .int g31, .int g32])), (g29, .inl (cB, 1400, .inl f0))]) hD hS hA [0, 1] rfl
    refine va_callv (va_runV (As := [.int 0]) (rest := []) ⟨hx, hb, hml, hown, hw⟩ (cb_M_lay l dC dI cB cI cJ s.heap.size h g0 g1 g2 g3 (nI cn) g6 g12 g13 g14 g16 g23 g25 g26 g27 g28 g31 g32 g5 g7 g8 g9 g10 g11 g15 g17 g18 g19 g20 g21 g22 g24 g29 f0 bs0 hH 0 (by have := encUf_pos 4 (refN (cn + kk) i); omega)) (kw_V 1 hw qq_735 qq_5 qq_738 qq_737 qs_M_lay rfl rfl (by decide +kernel) ⟨Nat.le_of_ble_eq_true rfl, Nat.le_of_ble_eq_true rfl⟩) ⟨fun a U g mk q => by obtain ⟨q0, q1, qP, qK, qD⟩ := q; exact ⟨q0, q1, qP, va_K.moved (u := U) (U := U.calling g mk a) (Vm.Alike.refl U.vm) qK, qD⟩, va_recv hK hPc (ci := 1) (q0 := 0) rfl rfl, fun U hU hW => ⟨rfl, by rw [hU], by rw [hU]; exact hPc, va_K.moved hW.alike hK, hDc.weaken (fun _ _ _ _ => trivial)⟩⟩ rfl rfl hl.1 rfl (lv_room (Nat.le_of_ble_eq_true rfl)) dd_M_layRef_6 ⟨by first | exact Nat.le_of_ble_eq_true rfl | (simp only [headSpec]; omega), by first | exact Nat.le_of_ble_eq_true rfl | (simp only [headSpec]; omega)⟩) hS (fun q _ h => hFc q h) hFc (fun f_5 t H1 locs ht hvm hq_6 hB hz1 hk1 hS => ?_)
    obtain ⟨hP1, hK1, hD1⟩ := hB
    rw [ht] at hP1
    obtain ⟨hP, hD⟩ := va_join (wr := []) (w1 := [(h, .inr (1, [.int g0, .int g1, .int g2, .int g3, .int (nI cn), .ref g5, .int g6, .ref g7, .ref g8, .ref g9, .ref g10, .ref g11, .int g12, .int g13, .int g14, .ref g15, .int g16, .ref g17, .ref g18, .ref g19, .ref g20, .ref g21, .ref g22, .int g23, .ref g24, .int g25, .int g26, .int g27, .int g28, .ref g29, .int (nI (bs0.length + 1)), .int g31, .int g32])), (g29, .inl (cB, 1400, .inl f_5))]) hP hD [0, 1] [] rfl rfl (by decide) (by decide) hk1 hFc hP1 hD1
    clear hP1 hK1 hD1 ht hvm hz1 hk1 hPc hDc hFc
    generalize H1 = H at hP hS ⊢
    have hP : va_P (dC, dI) vcl [(h, .inr (1, [.int g0, .int g1, .int g2, .int g3, .int (nI cn), .ref g5, .int g6, .ref g7, .ref g8, .ref g9, .ref g10, .ref g11, .int g12, .int g13, .int g14, .ref g15, .int g16, .ref g17, .ref g18, .ref g19, .ref g20, .ref g21, .ref g22, .int g23, .ref g24, .int g25, .int g26, .int g27, .int g28, .ref g29, .int (nI (bs0.length + 1)), .int g31, .int g32])), (g29, .inl (cB, 1400, .inl f_5))] H := hP
    have hD : va_D A [(h, .inr (1, [.int g0, .int g1, .int g2, .int g3, .int (nI cn), .ref g5, .int g6, .ref g7, .ref g8, .ref g9, .ref g10, .ref g11, .int g12, .int g13, .int g14, .ref g15, .int g16, .ref g17, .ref g18, .ref g19, .ref g20, .ref g21, .ref g22, .int g23, .ref g24, .int g25, .int g26, .int g27, .int g28, .ref g29, .int (nI (bs0.length + 1)), .int g31, .int g32])), (g29, .inl (cB, 1400, .inl f_5))] := hD
    have hq_6 : Hd (bs0 ++ [nI 0]) f_5 := by rw [show (0 : Int32) &&& 255 = nI 0 from rfl] at hq_6; exact hq_6
    have e_7 : nI (bs0.length + 1) = nI (bs0 ++ [nI 0]).length := (by rw [List.length_append]; rfl)
    have hP : va_P (dC, dI) vcl [(h, .inr (1, [.int g0, .int g1, .int g2, .int g3, .int (nI cn), .ref g5, .int g6, .ref g7, .ref g8, .ref g9, .ref g10, .ref g11, .int g12, .int g13, .int g14, .ref g15, .int g16, .ref g17, .ref g18, .ref g19, .ref g20, .ref g21, .ref g22, .int g23, .ref g24, .int g25, .int g26, .int g27, .int g28, .ref g29, .int (nI (bs0 ++ [nI 0]).length), .int g31, .int g32])), (g29, .inl (cB, 1400, .inl f_5))] H := by rw [← e_7]; exact hP
    have hD : va_D A [(h, .inr (1, [.int g0, .int g1, .int g2, .int g3, .int (nI cn), .ref g5, .int g6, .ref g7, .ref g8, .ref g9, .ref g10, .ref g11, .int g12, .int g13, .int g14, .ref g15, .int g16, .ref g17, .ref g18, .ref g19, .ref g20, .ref g21, .ref g22, .int g23, .ref g24, .int g25, .int g26, .int g27, .int g28, .ref g29, .int (nI (bs0 ++ [nI 0]).length), .int g31, .int g32])), (g29, .inl (cB, 1400, .inl f_5))] := by rw [← e_7]; exact hD
    refine lv_goto (tgt := 37) hx hb dd_M_layRef_9 (by decide) ?_
    have hfin : bs0 ++ [nI 0] = bs0 ++ encUf 4 (refN (cn + kk) i) := by rw [refN, if_pos hi0, encUf_0]
    have e_8 : nI (bs0 ++ [nI 0]).length = nI (bs0 ++ encUf 4 (refN (cn + kk) i)).length := (by rw [hfin])
    have hP : va_P (dC, dI) vcl [(h, .inr (1, [.int g0, .int g1, .int g2, .int g3, .int (nI cn), .ref g5, .int g6, .ref g7, .ref g8, .ref g9, .ref g10, .ref g11, .int g12, .int g13, .int g14, .ref g15, .int g16, .ref g17, .ref g18, .ref g19, .ref g20, .ref g21, .ref g22, .int g23, .ref g24, .int g25, .int g26, .int g27, .int g28, .ref g29, .int (nI (bs0 ++ encUf 4 (refN (cn + kk) i)).length), .int g31, .int g32])), (g29, .inl (cB, 1400, .inl f_5))] H := by rw [← e_8]; exact hP
    have hD : va_D A [(h, .inr (1, [.int g0, .int g1, .int g2, .int g3, .int (nI cn), .ref g5, .int g6, .ref g7, .ref g8, .ref g9, .ref g10, .ref g11, .int g12, .int g13, .int g14, .ref g15, .int g16, .ref g17, .ref g18, .ref g19, .ref g20, .ref g21, .ref g22, .int g23, .ref g24, .int g25, .int g26, .int g27, .int g28, .ref g29, .int (nI (bs0 ++ encUf 4 (refN (cn + kk) i)).length), .int g31, .int g32])), (g29, .inl (cB, 1400, .inl f_5))] := by rw [← e_8]; exact hD
    have hP9 := hP.sub (ws' := [(h, .inr (1, [.int g0, .int g1, .int g2, .int g3, .int (nI cn), .ref g5, .int g6, .ref g7, .ref g8, .ref g9, .ref g10, .ref g11, .int g12, .int g13, .int g14, .ref g15, .int g16, .ref g17, .ref g18, .ref g19, .ref g20, .ref g21, .ref g22, .int g23, .ref g24, .int g25, .int g26, .int g27, .int g28, .ref g29, .int (nI (bs0 ++ encUf 4 (refN (cn + kk) i)).length), .int g31, .int g32])), (g29, .inl (cB, 1400, .inl f_5))]) [0, 1] rfl
    have hD9 := hD.sub (ws' := [(h, .inr (1, [.int g0, .int g1, .int g2, .int g3, .int (nI cn), .ref g5, .int g6, .ref g7, .ref g8, .ref g9, .ref g10, .ref g11, .int g12, .int g13, .int g14, .ref g15, .int g16, .ref g17, .ref g18, .ref g19, .ref g20, .ref g21, .ref g22, .int g23, .ref g24, .int g25, .int g26, .int g27, .int g28, .ref g29, .int (nI (bs0 ++ encUf 4 (refN (cn + kk) i)).length), .int g31, .int g32])), (g29, .inl (cB, 1400, .inl f_5))]) [0, 1] (by decide) rfl
    refine W.widen (k := 0) (n := 0) (by first | exact Nat.le_refl _ | omega) (by first | exact Nat.le_refl _ | omega) ?_
    exact W.vret hx hb hr (fun t ht hW => ⟨⟨f_5, rfl, (by rw [← hfin]; exact hq_6), by rw [ht]; exact hP9, va_K.moved hW.alike hK, hD9⟩, hS.F ht⟩) hS.2.2 dd_M_layRef_37
