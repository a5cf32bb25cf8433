/-! ===== the claim is false: what the constructors alone make is more than its slots ===== -/
def R_law : String := "ChangeCodecLaw"
def lw_P (b : Addr) (xs : List Int32) (args : Array Value) (s : State) : Prop := args = #[.ref b] ∧ s.IntsAt b xs ∧ xs.length ≤ 3584 ∧ (Jvm.Cond.and given_1 narrow_1).before args s = true
def lw_At (p : Program) (s : State) (m : MethodId) (meth : Method) (c : Code) (b L : Nat) (xs : Nat → Int32) : Prop :=
  p.tables.exec = Jvm.exec ∧ c.code = code ∧ meth.sig.returnType = ret ∧ c.maxLocals = 8 ∧ s.vm.findClass R_law = some m.cls ∧ (∀ w ∈ lw_tbl, w.before #[Value.ref b] s = true) ∧ va_X b L xs s s.heap ∧ b < s.heap.size ∧ meth.locks = false ∧ (Jvm.Cond.and given_1 narrow_1).before #[Value.ref b] s = true
def rf_R : Room := { frames := 10, cells := 1024, slots := 20000, locals := 382 }
/-- the slots of the cells that are new since n -/
def rf_new (n : Nat) (H : Heap) : Nat := ((H.toList.drop n).map (fun c => c.slots.size)).sum
def rf_sz (q : Nat × va_E) : Nat := match q.2 with
  | .inl a => a.2.1
  | .inr _ => 0
theorem rf_cell (cA : ClassId) (x : vp_A) : (vp_cell cA x).slots.size = x.1 := by
  obtain ⟨n, f | f | f | f | f⟩ := x
  · rw [vp_cell_i, arrV_size]
  · rw [vp_cell_l, arrV_size]
  · rw [vp_cell_f, arrV_size]
  · rw [vp_cell_d, arrV_size]
  · rw [vp_cell_q, arrV_size]
theorem rf_set : ∀ (l : List Nat) (j z : Nat), l[j]? = some z → l.sum = z + (l.set j 0).sum := by
  intro l
  induction l with
  | nil => intro j z h; simp at h
  | cons a t ih =>
    intro j z h
    cases j with
    | zero => simp at h; subst h; simp
    | succ j =>
      have h1 := ih j z (by simpa using h)
      simp only [List.set_cons_succ, List.sum_cons]
      omega
theorem rf_pick : ∀ (ps : List (Nat × Nat)) (l : List Nat), (ps.map (fun q => q.1)).Nodup → (∀ q ∈ ps, l[q.1]? = some q.2) → (ps.map (fun q => q.2)).sum ≤ l.sum := by
  intro ps
  induction ps with
  | nil => intro l _ _; simp
  | cons q t ih =>
    intro l hn hq
    have h0 := hq q List.mem_cons_self
    have h1 := rf_set l q.1 q.2 h0
    rw [List.map_cons, List.nodup_cons] at hn
    have h2 := ih (l.set q.1 0) hn.2 (fun r hr => by
      have hne : q.1 ≠ r.1 := fun e => hn.1 (by rw [e]; exact List.mem_map.mpr ⟨r, hr, rfl⟩)
      rw [List.getElem?_set_ne hne]
      exact hq r (List.mem_cons_of_mem _ hr))
    rw [List.map_cons, List.sum_cons, h1]
    omega
theorem rf_nd {n : Nat} : ∀ (ws : va_W), va_D (fun q => n ≤ q) ws → ((ws.map (fun q => (q.1 - n, rf_sz q))).map (fun q => q.1)).Nodup := by
  intro ws hD
  rw [List.map_map, List.Nodup, List.pairwise_iff_getElem]
  intro i j hi hj hij e
  rw [List.length_map] at hi hj
  simp only [List.getElem_map, Function.comp] at e
  have a1 := hD.2 i _ (List.getElem?_eq_getElem hi)
  have a2 := hD.2 j _ (List.getElem?_eq_getElem hj)
  have := hD.1 i j _ _ (List.getElem?_eq_getElem hi) (List.getElem?_eq_getElem hj) (by simp only at a1 a2; omega)
  omega
theorem rf_sum {D : va_G} {cl : List vw_C} {n : Nat} {H : Heap} (ws : va_W) (ha : ∀ q ∈ ws, ∃ a, q.2 = .inl a) (hP : va_P D cl ws H) (hD : va_D (fun q => n ≤ q) ws) : (ws.map rf_sz).sum ≤ rf_new n H := by
  have h := rf_pick (ws.map (fun q => (q.1 - n, rf_sz q))) ((H.toList.drop n).map (fun c => c.slots.size)) (rf_nd ws hD) (fun r hr => by
    obtain ⟨q, hq, rfl⟩ := List.mem_map.mp hr
    obtain ⟨i, hi⟩ := List.getElem?_of_mem hq
    obtain ⟨a, ea⟩ := ha q hq
    have hle : n ≤ q.1 := hD.2 i q hi
    have hc := hP i q hi
    obtain ⟨q1, q2⟩ := q
    simp only at ea hle hc ⊢
    subst ea
    have hc : H[q1]? = some (vp_cell a.1 a.2) := hc
    rw [List.getElem?_map, List.getElem?_drop, show n + (q1 - n) = q1 by omega, Array.getElem?_toList, hc]
    simp only [Option.map_some, rf_cell]
    rfl)
  rw [List.map_map] at h
  exact h
/-- the law has returned, and has made more slots than the claim allows -/
def rf_Z (below : List Frame) (s : State) : State → Prop := fun t => t.status = .running ∧ Ended t below (.returned (some (.int 1))) ∧ 18263 < rf_new s.heap.size t.heap
theorem rf_ret {p : Program} {l : Launch} {e : Env} {R : Room} {s : State} {m : MethodId} {below : List Frame} {meth : Method} {c : Code} {b : Nat} {locs : List Loc} {cells slots : Nat} (hx : p.tables.exec = Jvm.exec) (hb : c.code = code) (hr : meth.sig.returnType = ret) (hlocks : meth.locks = false) {pc : Nat} {H : Heap} {ls : Array Slot} (hdg : decode code pc = .ok (.ireturn, 1)) (hq : 18263 < rf_new s.heap.size H) : W p l e R s m #[Value.ref b] below meth c H locs cells slots (rf_Z below s) (F0 m pc ls [.int 1]) := by
  intro T hT X
  obtain ⟨fs, hret, hrun, hended, hW, hframe⟩ := X.leave (v := some (.int 1)) (hlocks := hlocks) (fun h => by rw [hr] at h; cases h)
  have hmeth' : T.vm.method? m = some meth := X.method'
  refine ⟨T.setFrames fs, ?_, hrun, hended, by show 18263 < rf_new s.heap.size T.heap; rw [hT]; exact hq⟩
  jvm_step X.here [X.here.top, hx, hb, hdg, hmeth', hr, ret, narrow_b1]
  (try refine ⟨rfl, ?_⟩); (try refine ⟨rfl, ?_⟩)
  first | (intro acts; rw [hret _ acts rfl rfl rfl]) | rw [hret _ _ rfl rfl rfl]
  exact Steps.refl _
theorem ks_arr {args : Array Value} {s : State} {ty : FieldType} (h : (Cond.arrayClass ty).before args s = true) : ∃ cA : ClassId, ArrOfT s cA ty ∧ s.vm.findClass ("[" ++ ty.toString) = some cA := by
  obtain ⟨c, k, comp, h1, h2, h3⟩ := Cond.arrayClass_spec h
  exact ⟨c, fun n z => ⟨fun k h => (by cases h), k, h2, comp, h3⟩, h1⟩
theorem ks_three {s : State} {D : va_G} {cB cI cJ : ClassId} (hk : ∀ (c : Nat) (q : vw_C), vcl[c]? = some q → u_Kn s q.1 q.2.1 q.2.2 (D.1 c) (D.2 c)) (h1 : ArrOfT s cB .byte ∧ s.vm.findClass ("[" ++ FieldType.byte.toString) = some cB) (h2 : ArrOfT s cI .int ∧ s.vm.findClass ("[" ++ FieldType.int.toString) = some cI) (h3 : ArrOfT s cJ .long ∧ s.vm.findClass ("[" ++ FieldType.long.toString) = some cJ) : va_K D vcl [(cB, .byte), (cI, .int), (cJ, .long)] s := by
  refine ⟨hk, fun k q hq => ?_⟩
  match k, hq with
  | 0, hq => cases hq; exact h1
  | 1, hq => cases hq; exact h2
  | 2, hq => cases hq; exact h3
  | k + 3, hq => simp at hq
theorem rf_lt : ∀ L, L < 7 → Int32.ofNat L - 7 < 0 := by decide
set_option maxHeartbeats 4000000 in
set_option maxRecDepth 100000 in
theorem rf_start {p : Program} {e : Env} {s : State} {m : MethodId} {below : List Frame} {meth : Method} {c : Code} (l : Launch) {b L : Nat} {xs : Nat → Int32} (hL : L < 7) (C0 : lw_At p s m meth c b L xs) : W p l e rf_R s m #[Value.ref b] below meth c s.heap [] 0 0 (rf_Z below s) (entryFrame m ([Value.ref b] : List Value).toArray 8) := by
  obtain ⟨hx, hb, hr, hml, hown, hts, hX, hbl, hlocks, hgv⟩ := id C0
  have hw : ∀ w ∈ gw, w.before #[Value.ref b] s = true := fun w h => hts w (List.mem_filter.mp h).1
  have hA : ∀ q : Nat, s.heap.size ≤ q → (fun q : Nat => s.heap.size ≤ q) q := fun _ h => h
  have hbA : ¬ (fun q : Nat => s.heap.size ≤ q) b := Nat.not_le.mpr hbl
  obtain ⟨c0, iS0, hKn0⟩ := u_known (C := RR_X) (T := TT_X) (N := 8) (n := 8) hw hh_X (hw _ qq_18)
  obtain ⟨c1, iS1, hKn1⟩ := u_known (C := RR_M) (T := TT_M) (N := 33) (n := 33) hw hh_M (hw _ qq_574)
  obtain ⟨c2, iS2, hKn2⟩ := u_known (C := RR_B) (T := TT_B) (N := 2) (n := 2) hw hh_B (hw _ qq_26)
  obtain ⟨c3, iS3, hKn3⟩ := u_known (C := RR_C) (T := TT_C) (N := 10) (n := 10) hw hh_C (hw _ qq_71)
  obtain ⟨c4, iS4, hKn4⟩ := u_known (C := RR_D) (T := TT_D) (N := 5) (n := 5) hw hh_D (hw _ qq_43)
  obtain ⟨dC, dI, hKc⟩ : ∃ (dC : Nat → ClassId) (dI : Nat → Nat → Nat), ∀ (k : Nat) (q : vw_C), vcl[k]? = some q → u_Kn s q.1 q.2.1 q.2.2 (dC k) (dI k) := by
    refine ⟨fun k => match k with | 0 => c0 | 1 => c1 | 2 => c2 | 3 => c3 | _ => c4, fun k => match k with | 0 => iS0 | 1 => iS1 | 2 => iS2 | 3 => iS3 | _ => iS4, ?_⟩
    intro k q hq
    match k, hq with
    | 0, hq => cases hq; exact hKn0
    | 1, hq => cases hq; exact hKn1
    | 2, hq => cases hq; exact hKn2
    | 3, hq => cases hq; exact hKn3
    | 4, hq => cases hq; exact hKn4
    | k + 5, hq => simp [vcl] at hq
  obtain ⟨cB, hB⟩ := ks_arr (hw _ qq_41)
  obtain ⟨cI, hI⟩ := ks_arr (hw _ qq_120)
  obtain ⟨cJ, hJ⟩ := ks_arr (hw _ qq_121)
  have hK : va_K (dC, dI) vcl [(cB, .byte), (cI, .int), (cJ, .long)] s := ks_three hKc hB hI hJ
  have hS : va_S (fun q : Nat => s.heap.size ≤ q) s.heap s.heap [] := va_S.rf
  have hP : va_P (dC, dI) vcl [] s.heap := fun k q h => by simp at h
  have hD : va_D (fun q : Nat => s.heap.size ≤ q) [] := ⟨fun i j p q h => by simp at h, fun k q h => by simp at h⟩
  generalize hAe : (fun q : Nat => s.heap.size ≤ q) = A at hA hbA hS hD
  have hl := lv_entry ([.ref b]) (n := 8) (Nat.le_of_ble_eq_true rfl)
  rw [lg_entry_eq]
  generalize (lg_sl ([.ref b]) ++ List.replicate (8 - (lg_sl ([.ref b])).length) Slot.unset).toArray = ls at hl ⊢
  have hl : lv_has ls 8 [(0, .ref b)] := hl
  refine va_new (ci := 0) (fs := [.null, .null, .null, .null, .null, .null, .int 0, .int 0]) (C := RR_X) (T := TT_X) (N := 8) hx hb hw hh_X ty_X ty_X_ok hown (hw _ qq_17) (hw _ qq_18) (hw _ qq_1) hK hP hD hS hA rfl (by decide +kernel) (by first | exact Nat.le_of_ble_eq_true rfl | (simp only [headSpec]; omega)) (by first | exact Nat.le_of_ble_eq_true rfl | (simp only [headSpec]; omega)) dd_W_law_0 (fun q_1 H hP hD hS => ?_)
  have hP : va_P (dC, dI) vcl [(q_1, .inr (0, [.null, .null, .null, .null, .null, .null, .int 0, .int 0]))] H := hP
  have hD : va_D A [(q_1, .inr (0, [.null, .null, .null, .null, .null, .null, .int 0, .int 0]))] := hD
  refine W.widen (k := 1) (n := 8) (by first | exact Nat.le_refl _ | omega) (by first | exact Nat.le_refl _ | omega) ?_
  refine lv_dup hx hb dd_W_law_3 rfl ?_
  have hPc := hP.sub (ws' := [(q_1, .inr (0, [.null, .null, .null, .null, .null, .null, .int 0, .int 0]))]) [0] rfl
  have hDc := hD.sub (ws' := [(q_1, .inr (0, [.null, .null, .null, .null, .null, .null, .int 0, .int 0]))]) [0] (by decide) rfl
  have hFc := va_free (wc := [(q_1, .inr (0, [.null, .null, .null, .null, .null, .null, .int 0, .int 0]))]) hD hS hA [0] rfl
  refine va_callv (va_runI (As := []) (rest := [.ref q_1]) ⟨hx, hb, hml, hown, hw⟩ (cb_X_init l dC dI cB cI cJ H.size q_1) (kw_I 0 hw qq_19 qq_1 qq_21 qq_20 rfl rfl rfl (by decide +kernel) ⟨Nat.le_of_ble_eq_true rfl, Nat.le_of_ble_eq_true rfl⟩) ⟨fun a U g mk q => by obtain ⟨q0, q1, qP, qK, qD⟩ := q; exact ⟨q0, q1, qP, va_K.moved (u := U) (U := U.calling g mk a) (Vm.Alike.refl U.vm) qK, qD⟩, fun U hU hW => ⟨rfl, by rw [hU], by rw [hU]; exact hPc, va_K.moved hW.alike hK, hDc.weaken (fun _ _ _ _ => trivial)⟩⟩ rfl rfl hl.1 rfl (lv_room (Nat.le_of_ble_eq_true rfl)) dd_W_law_4 ⟨by first | exact Nat.le_of_ble_eq_true rfl | (simp only [headSpec]; omega), by first | exact Nat.le_of_ble_eq_true rfl | (simp only [headSpec]; omega)⟩) hS (fun q _ h => hFc q h) hFc (fun u_2 t H1 locs ht hvm hq_3 hB hz1 hk1 hS => ?_)
  obtain ⟨hP1, hK1, hD1⟩ := hB
  rw [ht] at hP1
  obtain ⟨hP, hD⟩ := va_join (wr := []) (w1 := [(q_1, .inr (0, [.ref (u_2 0), .ref (u_2 2), .ref (u_2 4), .ref (u_2 6), .ref (u_2 7), .ref (u_2 14), .int 0, .int 0])), ((u_2 0), .inr (2, [.ref (u_2 1), .int 0])), ((u_2 1), .inl (cB, 4096, .inl (fun _ => 0))), ((u_2 2), .inr (2, [.ref (u_2 3), .int 0])), ((u_2 3), .inl (cB, 4096, .inl (fun _ => 0))), ((u_2 4), .inr (2, [.ref (u_2 5), .int 0])), ((u_2 5), .inl (cB, 320, .inl (fun _ => 0))), ((u_2 6), .inr (4, [.ref (u_2 2), .int 0, .int (-1), .int 0, .int (-1)])), ((u_2 7), .inr (3, [.int 0, .int 0, .int 0, .int 0, .ref (u_2 8), .ref (u_2 9), .ref (u_2 10), .ref (u_2 11), .ref (u_2 12), .ref (u_2 13)])), ((u_2 8), .inl (cI, 8, .inl (fun _ => 0))), ((u_2 9), .inl (cI, 16, .inl (fun _ => 0))), ((u_2 10), .inl (cI, 16, .inl (fun _ => 0))), ((u_2 11), .inl (cJ, 16, .inr (.inl (fun _ => 0)))), ((u_2 12), .inl (cI, 16, .inl (fun _ => 0))), ((u_2 13), .inl (cI, 16, .inl (fun _ => 0))), ((u_2 14), .inr (3, [.int 0, .int 0, .int 0, .int 0, .ref (u_2 15), .ref (u_2 16), .ref (u_2 17), .ref (u_2 18), .ref (u_2 19), .ref (u_2 20)])), ((u_2 15), .inl (cI, 8, .inl (fun _ => 0))), ((u_2 16), .inl (cI, 16, .inl (fun _ => 0))), ((u_2 17), .inl (cI, 16, .inl (fun _ => 0))), ((u_2 18), .inl (cJ, 16, .inr (.inl (fun _ => 0)))), ((u_2 19), .inl (cI, 16, .inl (fun _ => 0))), ((u_2 20), .inl (cI, 16, .inl (fun _ => 0)))]) hP hD [0] [] rfl rfl (by decide) (by decide) hk1 hFc hP1 hD1
  clear hP1 hK1 hD1 ht hvm hz1 hk1 hPc hDc hFc
  generalize H1 = H at hP hS ⊢
  have hP : va_P (dC, dI) vcl [(q_1, .inr (0, [.ref (u_2 0), .ref (u_2 2), .ref (u_2 4), .ref (u_2 6), .ref (u_2 7), .ref (u_2 14), .int 0, .int 0])), ((u_2 0), .inr (2, [.ref (u_2 1), .int 0])), ((u_2 1), .inl (cB, 4096, .inl (fun _ => 0))), ((u_2 2), .inr (2, [.ref (u_2 3), .int 0])), ((u_2 3), .inl (cB, 4096, .inl (fun _ => 0))), ((u_2 4), .inr (2, [.ref (u_2 5), .int 0])), ((u_2 5), .inl (cB, 320, .inl (fun _ => 0))), ((u_2 6), .inr (4, [.ref (u_2 2), .int 0, .int (-1), .int 0, .int (-1)])), ((u_2 7), .inr (3, [.int 0, .int 0, .int 0, .int 0, .ref (u_2 8), .ref (u_2 9), .ref (u_2 10), .ref (u_2 11), .ref (u_2 12), .ref (u_2 13)])), ((u_2 8), .inl (cI, 8, .inl (fun _ => 0))), ((u_2 9), .inl (cI, 16, .inl (fun _ => 0))), ((u_2 10), .inl (cI, 16, .inl (fun _ => 0))), ((u_2 11), .inl (cJ, 16, .inr (.inl (fun _ => 0)))), ((u_2 12), .inl (cI, 16, .inl (fun _ => 0))), ((u_2 13), .inl (cI, 16, .inl (fun _ => 0))), ((u_2 14), .inr (3, [.int 0, .int 0, .int 0, .int 0, .ref (u_2 15), .ref (u_2 16), .ref (u_2 17), .ref (u_2 18), .ref (u_2 19), .ref (u_2 20)])), ((u_2 15), .inl (cI, 8, .inl (fun _ => 0))), ((u_2 16), .inl (cI, 16, .inl (fun _ => 0))), ((u_2 17), .inl (cI, 16, .inl (fun _ => 0))), ((u_2 18), .inl (cJ, 16, .inr (.inl (fun _ => 0)))), ((u_2 19), .inl (cI, 16, .inl (fun _ => 0))), ((u_2 20), .inl (cI, 16, .inl (fun _ => 0)))] H := hP
  have hD : va_D A [(q_1, .inr (0, [.ref (u_2 0), .ref (u_2 2), .ref (u_2 4), .ref (u_2 6), .ref (u_2 7), .ref (u_2 14), .int 0, .int 0])), ((u_2 0), .inr (2, [.ref (u_2 1), .int 0])), ((u_2 1), .inl (cB, 4096, .inl (fun _ => 0))), ((u_2 2), .inr (2, [.ref (u_2 3), .int 0])), ((u_2 3), .inl (cB, 4096, .inl (fun _ => 0))), ((u_2 4), .inr (2, [.ref (u_2 5), .int 0])), ((u_2 5), .inl (cB, 320, .inl (fun _ => 0))), ((u_2 6), .inr (4, [.ref (u_2 2), .int 0, .int (-1), .int 0, .int (-1)])), ((u_2 7), .inr (3, [.int 0, .int 0, .int 0, .int 0, .ref (u_2 8), .ref (u_2 9), .ref (u_2 10), .ref (u_2 11), .ref (u_2 12), .ref (u_2 13)])), ((u_2 8), .inl (cI, 8, .inl (fun _ => 0))), ((u_2 9), .inl (cI, 16, .inl (fun _ => 0))), ((u_2 10), .inl (cI, 16, .inl (fun _ => 0))), ((u_2 11), .inl (cJ, 16, .inr (.inl (fun _ => 0)))), ((u_2 12), .inl (cI, 16, .inl (fun _ => 0))), ((u_2 13), .inl (cI, 16, .inl (fun _ => 0))), ((u_2 14), .inr (3, [.int 0, .int 0, .int 0, .int 0, .ref (u_2 15), .ref (u_2 16), .ref (u_2 17), .ref (u_2 18), .ref (u_2 19), .ref (u_2 20)])), ((u_2 15), .inl (cI, 8, .inl (fun _ => 0))), ((u_2 16), .inl (cI, 16, .inl (fun _ => 0))), ((u_2 17), .inl (cI, 16, .inl (fun _ => 0))), ((u_2 18), .inl (cJ, 16, .inr (.inl (fun _ => 0)))), ((u_2 19), .inl (cI, 16, .inl (fun _ => 0))), ((u_2 20), .inl (cI, 16, .inl (fun _ => 0)))] := hD
  refine W.widen (k := 22) (n := 8727) (by first | exact Nat.le_refl _ | omega) (by first | exact Nat.le_refl _ | omega) ?_
  refine lv_astore_n (lv' := [(1, .ref q_1), (0, .ref b)]) hx hb dd_W_law_7 rfl hl (by decide) rfl (fun ls hl => ?_)
  refine va_new (ci := 1) (fs := [.int 0, .int 0, .int 0, .int 0, .int 0, .null, .int 0, .null, .null, .null, .null, .null, .int 0, .int 0, .int 0, .null, .int 0, .null, .null, .null, .null, .null, .null, .int 0, .null, .int 0, .int 0, .int 0, .int 0, .null, .int 0, .int 0, .int 0]) (C := RR_M) (T := TT_M) (N := 33) hx hb hw hh_M ty_M ty_M_ok hown (hw _ qq_573) (hw _ qq_574) (hw _ qq_5) hK hP hD hS hA rfl (by decide +kernel) (by first | exact Nat.le_of_ble_eq_true rfl | (simp only [headSpec]; omega)) (by first | exact Nat.le_of_ble_eq_true rfl | (simp only [headSpec]; omega)) dd_W_law_8 (fun q_4 H hP hD hS => ?_)
  have hP : va_P (dC, dI) vcl [(q_1, .inr (0, [.ref (u_2 0), .ref (u_2 2), .ref (u_2 4), .ref (u_2 6), .ref (u_2 7), .ref (u_2 14), .int 0, .int 0])), ((u_2 0), .inr (2, [.ref (u_2 1), .int 0])), ((u_2 1), .inl (cB, 4096, .inl (fun _ => 0))), ((u_2 2), .inr (2, [.ref (u_2 3), .int 0])), ((u_2 3), .inl (cB, 4096, .inl (fun _ => 0))), ((u_2 4), .inr (2, [.ref (u_2 5), .int 0])), ((u_2 5), .inl (cB, 320, .inl (fun _ => 0))), ((u_2 6), .inr (4, [.ref (u_2 2), .int 0, .int (-1), .int 0, .int (-1)])), ((u_2 7), .inr (3, [.int 0, .int 0, .int 0, .int 0, .ref (u_2 8), .ref (u_2 9), .ref (u_2 10), .ref (u_2 11), .ref (u_2 12), .ref (u_2 13)])), ((u_2 8), .inl (cI, 8, .inl (fun _ => 0))), ((u_2 9), .inl (cI, 16, .inl (fun _ => 0))), ((u_2 10), .inl (cI, 16, .inl (fun _ => 0))), ((u_2 11), .inl (cJ, 16, .inr (.inl (fun _ => 0)))), ((u_2 12), .inl (cI, 16, .inl (fun _ => 0))), ((u_2 13), .inl (cI, 16, .inl (fun _ => 0))), ((u_2 14), .inr (3, [.int 0, .int 0, .int 0, .int 0, .ref (u_2 15), .ref (u_2 16), .ref (u_2 17), .ref (u_2 18), .ref (u_2 19), .ref (u_2 20)])), ((u_2 15), .inl (cI, 8, .inl (fun _ => 0))), ((u_2 16), .inl (cI, 16, .inl (fun _ => 0))), ((u_2 17), .inl (cI, 16, .inl (fun _ => 0))), ((u_2 18), .inl (cJ, 16, .inr (.inl (fun _ => 0)))), ((u_2 19), .inl (cI, 16, .inl (fun _ => 0))), ((u_2 20), .inl (cI, 16, .inl (fun _ => 0))), (q_4, .inr (1, [.int 0, .int 0, .int 0, .int 0, .int 0, .null, .int 0, .null, .null, .null, .null, .null, .int 0, .int 0, .int 0, .null, .int 0, .null, .null, .null, .null, .null, .null, .int 0, .null, .int 0, .int 0, .int 0, .int 0, .null, .int 0, .int 0, .int 0]))] H := hP
  have hD : va_D A [(q_1, .inr (0, [.ref (u_2 0), .ref (u_2 2), .ref (u_2 4), .ref (u_2 6), .ref (u_2 7), .ref (u_2 14), .int 0, .int 0])), ((u_2 0), .inr (2, [.ref (u_2 1), .int 0])), ((u_2 1), .inl (cB, 4096, .inl (fun _ => 0))), ((u_2 2), .inr (2, [.ref (u_2 3), .int 0])), ((u_2 3), .inl (cB, 4096, .inl (fun _ => 0))), ((u_2 4), .inr (2, [.ref (u_2 5), .int 0])), ((u_2 5), .inl (cB, 320, .inl (fun _ => 0))), ((u_2 6), .inr (4, [.ref (u_2 2), .int 0, .int (-1), .int 0, .int (-1)])), ((u_2 7), .inr (3, [.int 0, .int 0, .int 0, .int 0, .ref (u_2 8), .ref (u_2 9), .ref (u_2 10), .ref (u_2 11), .ref (u_2 12), .ref (u_2 13)])), ((u_2 8), .inl (cI, 8, .inl (fun _ => 0))), ((u_2 9), .inl (cI, 16, .inl (fun _ => 0))), ((u_2 10), .inl (cI, 16, .inl (fun _ => 0))), ((u_2 11), .inl (cJ, 16, .inr (.inl (fun _ => 0)))), ((u_2 12), .inl (cI, 16, .inl (fun _ => 0))), ((u_2 13), .inl (cI, 16, .inl (fun _ => 0))), ((u_2 14), .inr (3, [.int 0, .int 0, .int 0, .int 0, .ref (u_2 15), .ref (u_2 16), .ref (u_2 17), .ref (u_2 18), .ref (u_2 19), .ref (u_2 20)])), ((u_2 15), .inl (cI, 8, .inl (fun _ => 0))), ((u_2 16), .inl (cI, 16, .inl (fun _ => 0))), ((u_2 17), .inl (cI, 16, .inl (fun _ => 0))), ((u_2 18), .inl (cJ, 16, .inr (.inl (fun _ => 0)))), ((u_2 19), .inl (cI, 16, .inl (fun _ => 0))), ((u_2 20), .inl (cI, 16, .inl (fun _ => 0))), (q_4, .inr (1, [.int 0, .int 0, .int 0, .int 0, .int 0, .null, .int 0, .null, .null, .null, .null, .null, .int 0, .int 0, .int 0, .null, .int 0, .null, .null, .null, .null, .null, .null, .int 0, .null, .int 0, .int 0, .int 0, .int 0, .null, .int 0, .int 0, .int 0]))] := hD
  refine W.widen (k := 23) (n := 8760) (by first | exact Nat.le_refl _ | omega) (by first | exact Nat.le_refl _ | omega) ?_
  refine lv_dup hx hb dd_W_law_11 rfl ?_
  have hPc := hP.sub (ws' := [(q_4, .inr (1, [.int 0, .int 0, .int 0, .int 0, .int 0, .null, .int 0, .null, .null, .null, .null, .null, .int 0, .int 0, .int 0, .null, .int 0, .null, .null, .null, .null, .null, .null, .int 0, .null, .int 0, .int 0, .int 0, .int 0, .null, .int 0, .int 0, .int 0]))]) [22] rfl
  have hDc := hD.sub (ws' := [(q_4, .inr (1, [.int 0, .int 0, .int 0, .int 0, .int 0, .null, .int 0, .null, .null, .null, .null, .null, .int 0, .int 0, .int 0, .null, .int 0, .null, .null, .null, .null, .null, .null, .int 0, .null, .int 0, .int 0, .int 0, .int 0, .null, .int 0, .int 0, .int 0]))]) [22] (by decide) rfl
  have hFc := va_free (wc := [(q_4, .inr (1, [.int 0, .int 0, .int 0, .int 0, .int 0, .null, .int 0, .null, .null, .null, .null, .null, .int 0, .int 0, .int 0, .null, .int 0, .null, .null, .null, .null, .null, .null, .int 0, .null, .int 0, .int 0, .int 0, .int 0, .null, .int 0, .int 0, .int 0]))]) hD hS hA [22] rfl
  refine va_callv (va_runI (As := []) (rest := [.ref q_4]) ⟨hx, hb, hml, hown, hw⟩ (cb_M_init l dC dI cB cI cJ H.size q_4) (kw_I 0 hw qq_575 qq_5 qq_577 qq_576 rfl rfl rfl (by decide +kernel) ⟨Nat.le_of_ble_eq_true rfl, Nat.le_of_ble_eq_true rfl⟩) ⟨fun a U g mk q => by obtain ⟨q0, q1, qP, qK, qD⟩ := q; exact ⟨q0, q1, qP, va_K.moved (u := U) (U := U.calling g mk a) (Vm.Alike.refl U.vm) qK, qD⟩, fun U hU hW => ⟨rfl, by rw [hU], by rw [hU]; exact hPc, va_K.moved hW.alike hK, hDc.weaken (fun _ _ _ _ => trivial)⟩⟩ rfl rfl hl.1 rfl (lv_room (Nat.le_of_ble_eq_true rfl)) dd_W_law_12 ⟨by first | exact Nat.le_of_ble_eq_true rfl | (simp only [headSpec]; omega), by first | exact Nat.le_of_ble_eq_true rfl | (simp only [headSpec]; omega)⟩) hS (fun q _ h => hFc q h) hFc (fun u_5 t H1 locs ht hvm hq_6 hB hz1 hk1 hS => ?_)
  obtain ⟨hP1, hK1, hD1⟩ := hB
  rw [ht] at hP1
  obtain ⟨hP, hD⟩ := va_join (wr := [(q_1, .inr (0, [.ref (u_2 0), .ref (u_2 2), .ref (u_2 4), .ref (u_2 6), .ref (u_2 7), .ref (u_2 14), .int 0, .int 0])), ((u_2 0), .inr (2, [.ref (u_2 1), .int 0])), ((u_2 1), .inl (cB, 4096, .inl (fun _ => 0))), ((u_2 2), .inr (2, [.ref (u_2 3), .int 0])), ((u_2 3), .inl (cB, 4096, .inl (fun _ => 0))), ((u_2 4), .inr (2, [.ref (u_2 5), .int 0])), ((u_2 5), .inl (cB, 320, .inl (fun _ => 0))), ((u_2 6), .inr (4, [.ref (u_2 2), .int 0, .int (-1), .int 0, .int (-1)])), ((u_2 7), .inr (3, [.int 0, .int 0, .int 0, .int 0, .ref (u_2 8), .ref (u_2 9), .ref (u_2 10), .ref (u_2 11), .ref (u_2 12), .ref (u_2 13)])), ((u_2 8), .inl (cI, 8, .inl (fun _ => 0))), ((u_2 9), .inl (cI, 16, .inl (fun _ => 0))), ((u_2 10), .inl (cI, 16, .inl (fun _ => 0))), ((u_2 11), .inl (cJ, 16, .inr (.inl (fun _ => 0)))), ((u_2 12), .inl (cI, 16, .inl (fun _ => 0))), ((u_2 13), .inl (cI, 16, .inl (fun _ => 0))), ((u_2 14), .inr (3, [.int 0, .int 0, .int 0, .int 0, .ref (u_2 15), .ref (u_2 16), .ref (u_2 17), .ref (u_2 18), .ref (u_2 19), .ref (u_2 20)])), ((u_2 15), .inl (cI, 8, .inl (fun _ => 0))), ((u_2 16), .inl (cI, 16, .inl (fun _ => 0))), ((u_2 17), .inl (cI, 16, .inl (fun _ => 0))), ((u_2 18), .inl (cJ, 16, .inr (.inl (fun _ => 0)))), ((u_2 19), .inl (cI, 16, .inl (fun _ => 0))), ((u_2 20), .inl (cI, 16, .inl (fun _ => 0)))]) (w1 := [(q_4, .inr (1, [.int 0, .int 0, .int 0, .int 0, .int 0, .ref (u_5 0), .int 0, .ref (u_5 1), .ref (u_5 2), .ref (u_5 3), .ref (u_5 4), .ref (u_5 5), .int 0, .int 0, .int 0, .ref (u_5 6), .int 0, .ref (u_5 7), .ref (u_5 8), .ref (u_5 9), .ref (u_5 10), .ref (u_5 11), .ref (u_5 12), .int 0, .ref (u_5 13), .int 0, .int 0, .int 0, .int (-1), .ref (u_5 14), .int 0, .int 0, .int 0])), ((u_5 0), .inl (cI, 8, .inl (fun _ => 0))), ((u_5 1), .inl (cI, 16, .inl (fun _ => 0))), ((u_5 2), .inl (cI, 16, .inl (fun _ => 0))), ((u_5 3), .inl (cJ, 16, .inr (.inl (fun _ => 0)))), ((u_5 4), .inl (cI, 16, .inl (fun _ => 0))), ((u_5 5), .inl (cI, 16, .inl (fun _ => 0))), ((u_5 6), .inl (cI, 8, .inl (fun _ => 0))), ((u_5 7), .inl (cI, 16, .inl (fun _ => 0))), ((u_5 8), .inl (cI, 16, .inl (fun _ => 0))), ((u_5 9), .inl (cJ, 16, .inr (.inl (fun _ => 0)))), ((u_5 10), .inl (cI, 16, .inl (fun _ => 0))), ((u_5 11), .inl (cI, 16, .inl (fun _ => 0))), ((u_5 12), .inl (cB, 4096, .inl (fun _ => 0))), ((u_5 13), .inl (cB, 4096, .inl (fun _ => 0))), ((u_5 14), .inl (cB, 1400, .inl (fun _ => 0)))]) hP hD [22] [0, 1, 2, 3, 4, 5, 6, 7, 8, 9, 10, 11, 12, 13, 14, 15, 16, 17, 18, 19, 20, 21] rfl rfl (by decide) (by decide) hk1 hFc hP1 hD1
  clear hP1 hK1 hD1 ht hvm hz1 hk1 hPc hDc hFc
  generalize H1 = H at hP hS ⊢
  have hP : va_P (dC, dI) vcl [(q_1, .inr (0, [.ref (u_2 0), .ref (u_2 2), .ref (u_2 4), .ref (u_2 6), .ref (u_2 7), .ref (u_2 14), .int 0, .int 0])), ((u_2 0), .inr (2, [.ref (u_2 1), .int 0])), ((u_2 1), .inl (cB, 4096, .inl (fun _ => 0))), ((u_2 2), .inr (2, [.ref (u_2 3), .int 0])), ((u_2 3), .inl (cB, 4096, .inl (fun _ => 0))), ((u_2 4), .inr (2, [.ref (u_2 5), .int 0])), ((u_2 5), .inl (cB, 320, .inl (fun _ => 0))), ((u_2 6), .inr (4, [.ref (u_2 2), .int 0, .int (-1), .int 0, .int (-1)])), ((u_2 7), .inr (3, [.int 0, .int 0, .int 0, .int 0, .ref (u_2 8), .ref (u_2 9), .ref (u_2 10), .ref (u_2 11), .ref (u_2 12), .ref (u_2 13)])), ((u_2 8), .inl (cI, 8, .inl (fun _ => 0))), ((u_2 9), .inl (cI, 16, .inl (fun _ => 0))), ((u_2 10), .inl (cI, 16, .inl (fun _ => 0))), ((u_2 11), .inl (cJ, 16, .inr (.inl (fun _ => 0)))), ((u_2 12), .inl (cI, 16, .inl (fun _ => 0))), ((u_2 13), .inl (cI, 16, .inl (fun _ => 0))), ((u_2 14), .inr (3, [.int 0, .int 0, .int 0, .int 0, .ref (u_2 15), .ref (u_2 16), .ref (u_2 17), .ref (u_2 18), .ref (u_2 19), .ref (u_2 20)])), ((u_2 15), .inl (cI, 8, .inl (fun _ => 0))), ((u_2 16), .inl (cI, 16, .inl (fun _ => 0))), ((u_2 17), .inl (cI, 16, .inl (fun _ => 0))), ((u_2 18), .inl (cJ, 16, .inr (.inl (fun _ => 0)))), ((u_2 19), .inl (cI, 16, .inl (fun _ => 0))), ((u_2 20), .inl (cI, 16, .inl (fun _ => 0))), (q_4, .inr (1, [.int 0, .int 0, .int 0, .int 0, .int 0, .ref (u_5 0), .int 0, .ref (u_5 1), .ref (u_5 2), .ref (u_5 3), .ref (u_5 4), .ref (u_5 5), .int 0, .int 0, .int 0, .ref (u_5 6), .int 0, .ref (u_5 7), .ref (u_5 8), .ref (u_5 9), .ref (u_5 10), .ref (u_5 11), .ref (u_5 12), .int 0, .ref (u_5 13), .int 0, .int 0, .int 0, .int (-1), .ref (u_5 14), .int 0, .int 0, .int 0])), ((u_5 0), .inl (cI, 8, .inl (fun _ => 0))), ((u_5 1), .inl (cI, 16, .inl (fun _ => 0))), ((u_5 2), .inl (cI, 16, .inl (fun _ => 0))), ((u_5 3), .inl (cJ, 16, .inr (.inl (fun _ => 0)))), ((u_5 4), .inl (cI, 16, .inl (fun _ => 0))), ((u_5 5), .inl (cI, 16, .inl (fun _ => 0))), ((u_5 6), .inl (cI, 8, .inl (fun _ => 0))), ((u_5 7), .inl (cI, 16, .inl (fun _ => 0))), ((u_5 8), .inl (cI, 16, .inl (fun _ => 0))), ((u_5 9), .inl (cJ, 16, .inr (.inl (fun _ => 0)))), ((u_5 10), .inl (cI, 16, .inl (fun _ => 0))), ((u_5 11), .inl (cI, 16, .inl (fun _ => 0))), ((u_5 12), .inl (cB, 4096, .inl (fun _ => 0))), ((u_5 13), .inl (cB, 4096, .inl (fun _ => 0))), ((u_5 14), .inl (cB, 1400, .inl (fun _ => 0)))] H := hP
  have hD : va_D A [(q_1, .inr (0, [.ref (u_2 0), .ref (u_2 2), .ref (u_2 4), .ref (u_2 6), .ref (u_2 7), .ref (u_2 14), .int 0, .int 0])), ((u_2 0), .inr (2, [.ref (u_2 1), .int 0])), ((u_2 1), .inl (cB, 4096, .inl (fun _ => 0))), ((u_2 2), .inr (2, [.ref (u_2 3), .int 0])), ((u_2 3), .inl (cB, 4096, .inl (fun _ => 0))), ((u_2 4), .inr (2, [.ref (u_2 5), .int 0])), ((u_2 5), .inl (cB, 320, .inl (fun _ => 0))), ((u_2 6), .inr (4, [.ref (u_2 2), .int 0, .int (-1), .int 0, .int (-1)])), ((u_2 7), .inr (3, [.int 0, .int 0, .int 0, .int 0, .ref (u_2 8), .ref (u_2 9), .ref (u_2 10), .ref (u_2 11), .ref (u_2 12), .ref (u_2 13)])), ((u_2 8), .inl (cI, 8, .inl (fun _ => 0))), ((u_2 9), .inl (cI, 16, .inl (fun _ => 0))), ((u_2 10), .inl (cI, 16, .inl (fun _ => 0))), ((u_2 11), .inl (cJ, 16, .inr (.inl (fun _ => 0)))), ((u_2 12), .inl (cI, 16, .inl (fun _ => 0))), ((u_2 13), .inl (cI, 16, .inl (fun _ => 0))), ((u_2 14), .inr (3, [.int 0, .int 0, .int 0, .int 0, .ref (u_2 15), .ref (u_2 16), .ref (u_2 17), .ref (u_2 18), .ref (u_2 19), .ref (u_2 20)])), ((u_2 15), .inl (cI, 8, .inl (fun _ => 0))), ((u_2 16), .inl (cI, 16, .inl (fun _ => 0))), ((u_2 17), .inl (cI, 16, .inl (fun _ => 0))), ((u_2 18), .inl (cJ, 16, .inr (.inl (fun _ => 0)))), ((u_2 19), .inl (cI, 16, .inl (fun _ => 0))), ((u_2 20), .inl (cI, 16, .inl (fun _ => 0))), (q_4, .inr (1, [.int 0, .int 0, .int 0, .int 0, .int 0, .ref (u_5 0), .int 0, .ref (u_5 1), .ref (u_5 2), .ref (u_5 3), .ref (u_5 4), .ref (u_5 5), .int 0, .int 0, .int 0, .ref (u_5 6), .int 0, .ref (u_5 7), .ref (u_5 8), .ref (u_5 9), .ref (u_5 10), .ref (u_5 11), .ref (u_5 12), .int 0, .ref (u_5 13), .int 0, .int 0, .int 0, .int (-1), .ref (u_5 14), .int 0, .int 0, .int 0])), ((u_5 0), .inl (cI, 8, .inl (fun _ => 0))), ((u_5 1), .inl (cI, 16, .inl (fun _ => 0))), ((u_5 2), .inl (cI, 16, .inl (fun _ => 0))), ((u_5 3), .inl (cJ, 16, .inr (.inl (fun _ => 0)))), ((u_5 4), .inl (cI, 16, .inl (fun _ => 0))), ((u_5 5), .inl (cI, 16, .inl (fun _ => 0))), ((u_5 6), .inl (cI, 8, .inl (fun _ => 0))), ((u_5 7), .inl (cI, 16, .inl (fun _ => 0))), ((u_5 8), .inl (cI, 16, .inl (fun _ => 0))), ((u_5 9), .inl (cJ, 16, .inr (.inl (fun _ => 0)))), ((u_5 10), .inl (cI, 16, .inl (fun _ => 0))), ((u_5 11), .inl (cI, 16, .inl (fun _ => 0))), ((u_5 12), .inl (cB, 4096, .inl (fun _ => 0))), ((u_5 13), .inl (cB, 4096, .inl (fun _ => 0))), ((u_5 14), .inl (cB, 1400, .inl (fun _ => 0)))] := hD
  refine W.widen (k := 38) (n := 18528) (by first | exact Nat.le_refl _ | omega) (by first | exact Nat.le_refl _ | omega) ?_
  refine lv_astore_n (lv' := [(2, .ref q_4), (1, .ref q_1), (0, .ref b)]) hx hb dd_W_law_15 rfl hl (by decide) rfl (fun ls hl => ?_)
  refine lv_iconst (v := 1) hx hb dd_W_law_16 (by decide) ?_
  refine va_newa (atype := .long) (ty := .long) (N' := 1) (a0 := (1, .inr (.inl (fun _ => 0)))) hx hb (hw _ qq_121) rfl hK hP hD hS hA (fun _ => rfl) (by decide) (by decide) (by first | decide | (simp only [componentBytes]; omega)) (by first | exact Nat.le_of_ble_eq_true rfl | (simp only [headSpec]; omega)) (by first | exact Nat.le_of_ble_eq_true rfl | (simp only [headSpec]; omega)) dd_W_law_17 (fun q_7 cA_8 H hK hP hD hS => ?_)
  obtain rfl : cJ = cA_8 := ks_eqJ hK 2 3 rfl rfl
  have hK : va_K (dC, dI) vcl [(cB, .byte), (cI, .int), (cJ, .long)] s := hK.sub [0, 1, 2] rfl
  have hP : va_P (dC, dI) vcl [(q_1, .inr (0, [.ref (u_2 0), .ref (u_2 2), .ref (u_2 4), .ref (u_2 6), .ref (u_2 7), .ref (u_2 14), .int 0, .int 0])), ((u_2 0), .inr (2, [.ref (u_2 1), .int 0])), ((u_2 1), .inl (cB, 4096, .inl (fun _ => 0))), ((u_2 2), .inr (2, [.ref (u_2 3), .int 0])), ((u_2 3), .inl (cB, 4096, .inl (fun _ => 0))), ((u_2 4), .inr (2, [.ref (u_2 5), .int 0])), ((u_2 5), .inl (cB, 320, .inl (fun _ => 0))), ((u_2 6), .inr (4, [.ref (u_2 2), .int 0, .int (-1), .int 0, .int (-1)])), ((u_2 7), .inr (3, [.int 0, .int 0, .int 0, .int 0, .ref (u_2 8), .ref (u_2 9), .ref (u_2 10), .ref (u_2 11), .ref (u_2 12), .ref (u_2 13)])), ((u_2 8), .inl (cI, 8, .inl (fun _ => 0))), ((u_2 9), .inl (cI, 16, .inl (fun _ => 0))), ((u_2 10), .inl (cI, 16, .inl (fun _ => 0))), ((u_2 11), .inl (cJ, 16, .inr (.inl (fun _ => 0)))), ((u_2 12), .inl (cI, 16, .inl (fun _ => 0))), ((u_2 13), .inl (cI, 16, .inl (fun _ => 0))), ((u_2 14), .inr (3, [.int 0, .int 0, .int 0, .int 0, .ref (u_2 15), .ref (u_2 16), .ref (u_2 17), .ref (u_2 18), .ref (u_2 19), .ref (u_2 20)])), ((u_2 15), .inl (cI, 8, .inl (fun _ => 0))), ((u_2 16), .inl (cI, 16, .inl (fun _ => 0))), ((u_2 17), .inl (cI, 16, .inl (fun _ => 0))), ((u_2 18), .inl (cJ, 16, .inr (.inl (fun _ => 0)))), ((u_2 19), .inl (cI, 16, .inl (fun _ => 0))), ((u_2 20), .inl (cI, 16, .inl (fun _ => 0))), (q_4, .inr (1, [.int 0, .int 0, .int 0, .int 0, .int 0, .ref (u_5 0), .int 0, .ref (u_5 1), .ref (u_5 2), .ref (u_5 3), .ref (u_5 4), .ref (u_5 5), .int 0, .int 0, .int 0, .ref (u_5 6), .int 0, .ref (u_5 7), .ref (u_5 8), .ref (u_5 9), .ref (u_5 10), .ref (u_5 11), .ref (u_5 12), .int 0, .ref (u_5 13), .int 0, .int 0, .int 0, .int (-1), .ref (u_5 14), .int 0, .int 0, .int 0])), ((u_5 0), .inl (cI, 8, .inl (fun _ => 0))), ((u_5 1), .inl (cI, 16, .inl (fun _ => 0))), ((u_5 2), .inl (cI, 16, .inl (fun _ => 0))), ((u_5 3), .inl (cJ, 16, .inr (.inl (fun _ => 0)))), ((u_5 4), .inl (cI, 16, .inl (fun _ => 0))), ((u_5 5), .inl (cI, 16, .inl (fun _ => 0))), ((u_5 6), .inl (cI, 8, .inl (fun _ => 0))), ((u_5 7), .inl (cI, 16, .inl (fun _ => 0))), ((u_5 8), .inl (cI, 16, .inl (fun _ => 0))), ((u_5 9), .inl (cJ, 16, .inr (.inl (fun _ => 0)))), ((u_5 10), .inl (cI, 16, .inl (fun _ => 0))), ((u_5 11), .inl (cI, 16, .inl (fun _ => 0))), ((u_5 12), .inl (cB, 4096, .inl (fun _ => 0))), ((u_5 13), .inl (cB, 4096, .inl (fun _ => 0))), ((u_5 14), .inl (cB, 1400, .inl (fun _ => 0))), (q_7, .inl (cJ, 1, .inr (.inl (fun _ => 0))))] H := hP
  have hD : va_D A [(q_1, .inr (0, [.ref (u_2 0), .ref (u_2 2), .ref (u_2 4), .ref (u_2 6), .ref (u_2 7), .ref (u_2 14), .int 0, .int 0])), ((u_2 0), .inr (2, [.ref (u_2 1), .int 0])), ((u_2 1), .inl (cB, 4096, .inl (fun _ => 0))), ((u_2 2), .inr (2, [.ref (u_2 3), .int 0])), ((u_2 3), .inl (cB, 4096, .inl (fun _ => 0))), ((u_2 4), .inr (2, [.ref (u_2 5), .int 0])), ((u_2 5), .inl (cB, 320, .inl (fun _ => 0))), ((u_2 6), .inr (4, [.ref (u_2 2), .int 0, .int (-1), .int 0, .int (-1)])), ((u_2 7), .inr (3, [.int 0, .int 0, .int 0, .int 0, .ref (u_2 8), .ref (u_2 9), .ref (u_2 10), .ref (u_2 11), .ref (u_2 12), .ref (u_2 13)])), ((u_2 8), .inl (cI, 8, .inl (fun _ => 0))), ((u_2 9), .inl (cI, 16, .inl (fun _ => 0))), ((u_2 10), .inl (cI, 16, .inl (fun _ => 0))), ((u_2 11), .inl (cJ, 16, .inr (.inl (fun _ => 0)))), ((u_2 12), .inl (cI, 16, .inl (fun _ => 0))), ((u_2 13), .inl (cI, 16, .inl (fun _ => 0))), ((u_2 14), .inr (3, [.int 0, .int 0, .int 0, .int 0, .ref (u_2 15), .ref (u_2 16), .ref (u_2 17), .ref (u_2 18), .ref (u_2 19), .ref (u_2 20)])), ((u_2 15), .inl (cI, 8, .inl (fun _ => 0))), ((u_2 16), .inl (cI, 16, .inl (fun _ => 0))), ((u_2 17), .inl (cI, 16, .inl (fun _ => 0))), ((u_2 18), .inl (cJ, 16, .inr (.inl (fun _ => 0)))), ((u_2 19), .inl (cI, 16, .inl (fun _ => 0))), ((u_2 20), .inl (cI, 16, .inl (fun _ => 0))), (q_4, .inr (1, [.int 0, .int 0, .int 0, .int 0, .int 0, .ref (u_5 0), .int 0, .ref (u_5 1), .ref (u_5 2), .ref (u_5 3), .ref (u_5 4), .ref (u_5 5), .int 0, .int 0, .int 0, .ref (u_5 6), .int 0, .ref (u_5 7), .ref (u_5 8), .ref (u_5 9), .ref (u_5 10), .ref (u_5 11), .ref (u_5 12), .int 0, .ref (u_5 13), .int 0, .int 0, .int 0, .int (-1), .ref (u_5 14), .int 0, .int 0, .int 0])), ((u_5 0), .inl (cI, 8, .inl (fun _ => 0))), ((u_5 1), .inl (cI, 16, .inl (fun _ => 0))), ((u_5 2), .inl (cI, 16, .inl (fun _ => 0))), ((u_5 3), .inl (cJ, 16, .inr (.inl (fun _ => 0)))), ((u_5 4), .inl (cI, 16, .inl (fun _ => 0))), ((u_5 5), .inl (cI, 16, .inl (fun _ => 0))), ((u_5 6), .inl (cI, 8, .inl (fun _ => 0))), ((u_5 7), .inl (cI, 16, .inl (fun _ => 0))), ((u_5 8), .inl (cI, 16, .inl (fun _ => 0))), ((u_5 9), .inl (cJ, 16, .inr (.inl (fun _ => 0)))), ((u_5 10), .inl (cI, 16, .inl (fun _ => 0))), ((u_5 11), .inl (cI, 16, .inl (fun _ => 0))), ((u_5 12), .inl (cB, 4096, .inl (fun _ => 0))), ((u_5 13), .inl (cB, 4096, .inl (fun _ => 0))), ((u_5 14), .inl (cB, 1400, .inl (fun _ => 0))), (q_7, .inl (cJ, 1, .inr (.inl (fun _ => 0))))] := hD
  refine W.widen (k := 39) (n := 18529) (by first | exact Nat.le_refl _ | omega) (by first | exact Nat.le_refl _ | omega) ?_
  refine lv_astore_n (lv' := [(3, .ref q_7), (2, .ref q_4), (1, .ref q_1), (0, .ref b)]) hx hb dd_W_law_19 rfl hl (by decide) rfl (fun ls hl => ?_)
  refine lv_iconst (v := 0) hx hb dd_W_law_20 (by decide) ?_
  refine lv_istore (lv' := [(4, .int 0), (3, .ref q_7), (2, .ref q_4), (1, .ref q_1), (0, .ref b)]) hx hb dd_W_law_21 hl (by decide) rfl (fun ls hl => ?_)
  refine lv_iload hx hb dd_W_law_23 (lv_at hl 0 rfl) ?_
  refine lv_aload_n hx hb dd_W_law_25 rfl (lv_at hl 4 rfl) ?_
  refine va_slen hx hb hX hbl hbA hS dd_W_law_26 ?_
  refine lv_bipush (v := 7) hx hb dd_W_law_27 (by decide) ?_
  refine lv_isub hx hb dd_W_law_29 ?_
  refine lv_icmp_gt (tgt := 639) hx hb dd_W_law_30 (by decide) (fun c_9 => ?_) (fun c_9 => ?_)
  · refine lv_iconst (v := 1) hx hb dd_W_law_639 (by decide) ?_
    have hP9 := hP.sub (ws' := [((u_2 1), .inl (cB, 4096, .inl (fun _ => 0))), ((u_2 3), .inl (cB, 4096, .inl (fun _ => 0))), ((u_2 5), .inl (cB, 320, .inl (fun _ => 0))), ((u_2 8), .inl (cI, 8, .inl (fun _ => 0))), ((u_2 9), .inl (cI, 16, .inl (fun _ => 0))), ((u_2 10), .inl (cI, 16, .inl (fun _ => 0))), ((u_2 11), .inl (cJ, 16, .inr (.inl (fun _ => 0)))), ((u_2 12), .inl (cI, 16, .inl (fun _ => 0))), ((u_2 13), .inl (cI, 16, .inl (fun _ => 0))), ((u_2 15), .inl (cI, 8, .inl (fun _ => 0))), ((u_2 16), .inl (cI, 16, .inl (fun _ => 0))), ((u_2 17), .inl (cI, 16, .inl (fun _ => 0))), ((u_2 18), .inl (cJ, 16, .inr (.inl (fun _ => 0)))), ((u_2 19), .inl (cI, 16, .inl (fun _ => 0))), ((u_2 20), .inl (cI, 16, .inl (fun _ => 0))), ((u_5 0), .inl (cI, 8, .inl (fun _ => 0))), ((u_5 1), .inl (cI, 16, .inl (fun _ => 0))), ((u_5 2), .inl (cI, 16, .inl (fun _ => 0))), ((u_5 3), .inl (cJ, 16, .inr (.inl (fun _ => 0)))), ((u_5 4), .inl (cI, 16, .inl (fun _ => 0))), ((u_5 5), .inl (cI, 16, .inl (fun _ => 0))), ((u_5 6), .inl (cI, 8, .inl (fun _ => 0))), ((u_5 7), .inl (cI, 16, .inl (fun _ => 0))), ((u_5 8), .inl (cI, 16, .inl (fun _ => 0))), ((u_5 9), .inl (cJ, 16, .inr (.inl (fun _ => 0)))), ((u_5 10), .inl (cI, 16, .inl (fun _ => 0))), ((u_5 11), .inl (cI, 16, .inl (fun _ => 0))), ((u_5 12), .inl (cB, 4096, .inl (fun _ => 0))), ((u_5 13), .inl (cB, 4096, .inl (fun _ => 0))), ((u_5 14), .inl (cB, 1400, .inl (fun _ => 0))), (q_7, .inl (cJ, 1, .inr (.inl (fun _ => 0))))]) [2, 4, 6, 9, 10, 11, 12, 13, 14, 16, 17, 18, 19, 20, 21, 23, 24, 25, 26, 27, 28, 29, 30, 31, 32, 33, 34, 35, 36, 37, 38] rfl
    have hD9 := hD.sub (ws' := [((u_2 1), .inl (cB, 4096, .inl (fun _ => 0))), ((u_2 3), .inl (cB, 4096, .inl (fun _ => 0))), ((u_2 5), .inl (cB, 320, .inl (fun _ => 0))), ((u_2 8), .inl (cI, 8, .inl (fun _ => 0))), ((u_2 9), .inl (cI, 16, .inl (fun _ => 0))), ((u_2 10), .inl (cI, 16, .inl (fun _ => 0))), ((u_2 11), .inl (cJ, 16, .inr (.inl (fun _ => 0)))), ((u_2 12), .inl (cI, 16, .inl (fun _ => 0))), ((u_2 13), .inl (cI, 16, .inl (fun _ => 0))), ((u_2 15), .inl (cI, 8, .inl (fun _ => 0))), ((u_2 16), .inl (cI, 16, .inl (fun _ => 0))), ((u_2 17), .inl (cI, 16, .inl (fun _ => 0))), ((u_2 18), .inl (cJ, 16, .inr (.inl (fun _ => 0)))), ((u_2 19), .inl (cI, 16, .inl (fun _ => 0))), ((u_2 20), .inl (cI, 16, .inl (fun _ => 0))), ((u_5 0), .inl (cI, 8, .inl (fun _ => 0))), ((u_5 1), .inl (cI, 16, .inl (fun _ => 0))), ((u_5 2), .inl (cI, 16, .inl (fun _ => 0))), ((u_5 3), .inl (cJ, 16, .inr (.inl (fun _ => 0)))), ((u_5 4), .inl (cI, 16, .inl (fun _ => 0))), ((u_5 5), .inl (cI, 16, .inl (fun _ => 0))), ((u_5 6), .inl (cI, 8, .inl (fun _ => 0))), ((u_5 7), .inl (cI, 16, .inl (fun _ => 0))), ((u_5 8), .inl (cI, 16, .inl (fun _ => 0))), ((u_5 9), .inl (cJ, 16, .inr (.inl (fun _ => 0)))), ((u_5 10), .inl (cI, 16, .inl (fun _ => 0))), ((u_5 11), .inl (cI, 16, .inl (fun _ => 0))), ((u_5 12), .inl (cB, 4096, .inl (fun _ => 0))), ((u_5 13), .inl (cB, 4096, .inl (fun _ => 0))), ((u_5 14), .inl (cB, 1400, .inl (fun _ => 0))), (q_7, .inl (cJ, 1, .inr (.inl (fun _ => 0))))]) [2, 4, 6, 9, 10, 11, 12, 13, 14, 16, 17, 18, 19, 20, 21, 23, 24, 25, 26, 27, 28, 29, 30, 31, 32, 33, 34, 35, 36, 37, 38] (by decide) rfl
    rw [← hAe] at hD9
    have hq := rf_sum _ (by intro q hq; simp only [List.mem_cons, List.not_mem_nil, or_false] at hq; rcases hq with rfl | rfl | rfl | rfl | rfl | rfl | rfl | rfl | rfl | rfl | rfl | rfl | rfl | rfl | rfl | rfl | rfl | rfl | rfl | rfl | rfl | rfl | rfl | rfl | rfl | rfl | rfl | rfl | rfl | rfl | rfl <;> exact ⟨_, rfl⟩) hP9 hD9
    exact rf_ret hx hb hr hlocks dd_W_law_640 (Nat.lt_of_lt_of_le (by simp only [List.map_cons, List.map_nil, rf_sz, List.sum_cons, List.sum_nil]; omega) hq)
  · exact absurd (rf_lt L hL) c_9
set_option maxHeartbeats 4000000 in
/-- the law on a script of fewer than seven ints, from a start with room for 20000 slots: it returns true, and has made more than 18263 slots -/
theorem rf_met (l : Launch) (b : Addr) (xs : List Int32) (hxs : xs.length < 7) : MetFree l x (headSpec (Jvm.Cond.code x code maxLocals ret :: tables_1) rf_R) (lw_P b xs) (fun _ _ _ _ _ => True) (fun _ s o t => o = .returned (some (.int 1)) ∧ 18263 < rf_new s.heap.size t.heap) := by
  refine MetFree.of_bodyS (code := code) (maxLocals := maxLocals) (ret := ret) (by decide) ?_ ?_
  · intro args s m h hn
    obtain ⟨meth, c, h1, h2, h3, h4, h5, h6, -, -⟩ := Cond.code_spec hn (atoms_spec (ws := Jvm.Cond.code x code maxLocals ret :: tables_1) h _ List.mem_cons_self)
    exact ⟨meth, c, h1, h2, h3, h4, h5, h6⟩
  · intro p e s m args below meth c s₁ B hml0 hP _
    obtain ⟨rfl, hx, hbd, hgv⟩ := hP
    obtain ⟨scr, harrAt, hlist, hof, hsmall⟩ := hx
    obtain ⟨hcb, hkn, -, -⟩ := State.arrayAt?_spec harrAt
    have hown : s.vm.findClass R_law = some m.cls := findClass_of_methodNamed B.named
    have hts0 : ∀ c ∈ (Jvm.Cond.code x code maxLocals ret :: tables_1), c.before #[Value.ref b] s = true := atoms_spec (ws := Jvm.Cond.code x code maxLocals ret :: tables_1) B.pre
    have hts : ∀ w ∈ lw_tbl, w.before #[Value.ref b] s = true := k2_hts_sels lw_privs (fun w hw => hts0 w (List.mem_cons_of_mem _ hw)) lw_privs_ok
    have hml : c.maxLocals = 8 := B.maxLocals_eq (hts0 _ List.mem_cons_self)
    have X₀ : Stand p l e rf_R s m #[Value.ref b] below meth c s₁ [] 0 0 := Stand.of_body B
    have hh0 : s₁.heap = s.heap := by rw [B.state]; rfl
    have hsz : scr.slots.size = xs.length := by rw [← Array.length_toList, hlist, List.length_map]
    have hval : ∀ j : Nat, j < xs.length → scr.slots[j]? = some (.int (xs.getD j 0)) := fun j hj => by
      rw [← Array.getElem?_toList, hlist]
      simp [hj]
    have hbl : b < s.heap.size := (Array.getElem?_eq_some_iff.mp hcb).1
    have hX : va_X b xs.length (fun j => xs.getD j 0) s s.heap := ⟨scr, hcb, hof, hkn, hsz, hval⟩
    have K : W p l e rf_R s m #[Value.ref b] below meth c s₁.heap [] 0 0 (rf_Z below s) (entryFrame m ([Value.ref b] : List Value).toArray 8) := by
      rw [hh0]
      exact rf_start l hxs ⟨B.exec, B.bytes, B.returns, hml, hown, hts, hX, hbl, B.notSynchronized, hgv⟩
    obtain ⟨t, a1, b1, b2, b3⟩ := K s₁ rfl X₀
    exact ⟨t, _, a1, b1, b2, rfl, b3⟩
/-- THE CLAIM IS FALSE wherever there is a start of the Statement's own with a script of fewer than seven ints and room for 20000 slots -/
theorem rf_no {l : Launch} {p : Program} {e : Env} {s : State} {m : MethodId} {args : Array Value} {below : List Frame} {b : Addr} {xs : List Int32} (hfl : l.flags = flags0)
    (hA : AtStart classFile x code maxLocals ret World_1 tables_1 room_1 Calls_1 rest_1 Pre_1 l p e s m args below) (hroom : s.hasRoom e.platform rf_R = true) (hP : lw_P b xs args s) (hxs : xs.length < 7) : ¬ Claimed_1_1 ∧ ¬ Claimed_1_2 := by
  obtain ⟨hLi, hWo, ha, hle, hc, hk, hfr, hfit, hheap, happ, hcalls, hrest, hpre⟩ := hA
  have h0 := (Spec.appliesLoose_iff hfr).mp ((Spec.applies_iff_loose hfr).mp happ).1
  have happ2 : (headSpec (Jvm.Cond.code x code maxLocals ret :: tables_1) rf_R).appliesLoose x e.platform s = true := (Spec.appliesLoose_iff hfr).mpr ⟨h0.1, h0.2.1, h0.2.2.1, h0.2.2.2.1, h0.2.2.2.2.1, h0.2.2.2.2.2.1, hroom, h0.2.2.2.2.2.2.2⟩
  obtain ⟨n2, o2, g1, g2, g3, -, g4⟩ := rf_met l b xs hxs p e ha hc hk s m args below hfr happ2 hP trivial
  have key : ∀ (n : Nat) (o : Outcome), (∀ k, k < n → Within (stepsAlone p.tables e k s) below) → Ended (stepsAlone p.tables e n s) below o → Framed s o (stepsAlone p.tables e n s) [] 1072 18263 → False := by
    intro n o h1 h3 hF
    have hn : n = n2 := by
      rcases Nat.lt_trichotomy n n2 with h | h | h
      · exact absurd (g1 n h) h3.not_within
      · exact h
      · exact absurd (h1 n2 h) g3.not_within
    subst hn
    obtain ⟨-, -, -, -, -, -, hle2, -⟩ := hF
    exact absurd g4 (Nat.not_lt.mpr hle2)
  refine ⟨fun h => ?_, fun h => ?_⟩
  · obtain ⟨n, o, h1, h2, h3, hpost⟩ := h l hfl hLi hWo p e ha hc hk s m args below hfr hfit hheap happ ⟨hcalls, hrest, hpre⟩
    exact key n o h1 h3 hpost.2
  · obtain ⟨n, o, h1, h2, h3, hpost⟩ := h l hfl hLi hWo p e ha hc hk s m args below hfr hfit hheap happ ⟨hcalls, hrest, hpre⟩
    exact key n o h1 h3 hpost.2
