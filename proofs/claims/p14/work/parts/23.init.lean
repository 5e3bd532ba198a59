/-! 23: new objects of both sides (the walks are laid by wip/gen/cls23.py) -/
def A9 (q0 q1 q2 q3 q4 q5 q6 q7 q8 : Nat) : Nat → Nat := fun c => match c with
  | 0 => q0
  | 1 => q1
  | 2 => q2
  | 3 => q3
  | 4 => q4
  | 5 => q5
  | 6 => q6
  | 7 => q7
  | _ => q8
def s0 : SG := (0, 0, fun _ _ => 0, fun _ => none, fun _ => none, fun _ => 0, fun _ _ => false, fun _ => 0)
theorem cl_s0 : ∀ c, cLive s0 c → c < 9 := by
  intro c hc
  rcases hc with h | ⟨h1, h2⟩ | ⟨h1, h2⟩
  · exact h
  · have h2 : c < 16 + 4 * 0 := h2
    omega
  · have h2 : c < 2000 + 0 := h2
    omega
theorem s0_wf : WF s0 := ⟨Nat.le_refl _, Nat.zero_le _, Nat.le_refl _, Nat.zero_le _, fun b hb => absurd hb (Nat.not_lt_zero _), fun k hk => absurd hk (Nat.not_lt_zero _)⟩
theorem CR.first {D : va_G} {g : Nat → ClassId} {b0 : Nat} {H : Heap} {q0 q1 q2 q3 q4 q5 q6 q7 q8 : Nat} (h1 : q0 < q1) (h2 : q1 < q2) (h3 : q2 < q3) (h4 : q3 < q4) (h5 : q4 < q5) (h6 : q5 < q6) (h7 : q6 < q7) (h8 : q7 < q8) (hb : b0 ≤ q0)
    (c0 : HA D H q0 (eO 3 [.ref q1, .ref q2, .int 0, .int 0, .ref q3, .ref q5, .ref q7])) (c1 : HA D H q1 (eQ (g 5) 400 (fun _ => none))) (c2 : HA D H q2 (eQ (g 4) 40 (fun _ => none)))
    (c3 : HA D H q3 (eO 1 [.ref q4])) (c4 : HA D H q4 (eL (g 2) 64 (fun _ => 0))) (c5 : HA D H q5 (eO 1 [.ref q6])) (c6 : HA D H q6 (eL (g 2) 64 (fun _ => 0))) (c7 : HA D H q7 (eO 1 [.ref q8])) (c8 : HA D H q8 (eL (g 2) 64 (fun _ => 0))) :
    CR D g b0 (A9 q0 q1 q2 q3 q4 q5 q6 q7 q8) s0 (fun _ => 0) H := by
  refine ⟨s0_wf, ?_, ?_, ?_, ?_, ?_, c3, c4, c5, c6, c7, c8, fun k hk => absurd hk (Nat.not_lt_zero _), fun b hb => absurd hb (Nat.not_lt_zero _)⟩
  · intro c c' hc hc' e
    have hc := cl_s0 c hc
    have hc' := cl_s0 c' hc'
    rcases (show c = 0 ∨ c = 1 ∨ c = 2 ∨ c = 3 ∨ c = 4 ∨ c = 5 ∨ c = 6 ∨ c = 7 ∨ c = 8 by omega) with rfl | rfl | rfl | rfl | rfl | rfl | rfl | rfl | rfl <;>
    rcases (show c' = 0 ∨ c' = 1 ∨ c' = 2 ∨ c' = 3 ∨ c' = 4 ∨ c' = 5 ∨ c' = 6 ∨ c' = 7 ∨ c' = 8 by omega) with rfl | rfl | rfl | rfl | rfl | rfl | rfl | rfl | rfl <;>
    first
      | rfl
      | (exfalso
         simp only [A9] at e
         omega)
  · intro c hc
    have hc := cl_s0 c hc
    rcases (show c = 0 ∨ c = 1 ∨ c = 2 ∨ c = 3 ∨ c = 4 ∨ c = 5 ∨ c = 6 ∨ c = 7 ∨ c = 8 by omega) with rfl | rfl | rfl | rfl | rfl | rfl | rfl | rfl | rfl <;> simp only [A9] <;> omega
  · show HA D H q0 (eO 3 [.ref q1, .ref q2, .int (nI 0), .int (nI 0), .ref q3, .ref q5, .ref q7])
    rw [nI_0]
    exact c0
  · have e : (fun k => if k < sV s0 then some (A9 q0 q1 q2 q3 q4 q5 q6 q7 q8 (16 + 4 * k)) else none) = fun _ => none := by
      funext k
      exact if_neg (Nat.not_lt_zero k)
    rw [e]
    exact c1
  · have e : (fun k => if k < sB s0 then some (A9 q0 q1 q2 q3 q4 q5 q6 q7 q8 (2000 + k)) else none) = fun _ => none := by
      funext k
      exact if_neg (Nat.not_lt_zero k)
    rw [e]
    exact c2
/-- a new object's state -/
def Ini (σ : SG) : Prop := sV σ = 1 ∧ sB σ = 1 ∧ sF σ 0 = none ∧ sS σ 0 = none ∧ sH σ 0 = 0 ∧ Zer (sW σ 0) ∧ Zer (sM σ)
theorem CR.keep {D : va_G} {g : Nat → ClassId} {b0 : Nat} {A : Nat → Nat} {σ : SG} {dw : Nat → Int64} {H H1 : Heap} (h : CR D g b0 A σ dw H) (hk : ∀ q, q < H.size → (∃ c, cLive σ c ∧ q = A c) → H1[q]? = H[q]?) : CR D g b0 A σ dw H1 := by
  have K : ∀ {c : Nat}, cLive σ c → ∀ {e : va_E}, HA D H (A c) e → HA D H1 (A c) e := fun {c} hc {e} he => he.kept (hk _ he.lt ⟨c, hc, rfl⟩)
  refine ⟨h.1, h.2.1, h.2.2.1, K (cl0 (by omega)) h.o, K (cl0 (by omega)) h.vr, K (cl0 (by omega)) h.br, K (cl0 (by omega)) h.nt, K (cl0 (by omega)) h.nw, K (cl0 (by omega)) h.mg, K (cl0 (by omega)) h.mw, K (cl0 (by omega)) h.dr, K (cl0 (by omega)) h.drw, fun k hk2 => ⟨?_, ?_, ?_, ?_⟩, fun b hb => K (clB hb) (h.ba hb)⟩
  · exact K (clV k hk2 (by omega) (by omega)) (h.ver hk2)
  · exact K (clV k hk2 (by omega) (by omega)) (h.ts hk2)
  · exact K (clV k hk2 (by omega) (by omega)) (h.tw hk2)
  · exact K (clV k hk2 (by omega) (by omega)) (h.an hk2)
-- the reference's object
def M11 (q0 q1 q2 q3 q4 q5 q6 q7 q8 q9 q10 : Nat) : Nat → Nat := fun c => match c with
  | 0 => q0
  | 1 => q1
  | 2 => q2
  | 3 => q3
  | 4 => q4
  | 5 => q5
  | 6 => q6
  | 7 => q7
  | 8 => q8
  | 9 => q9
  | _ => q10
def x0 : Nat → Nat → Int32 := va_up (va_up (fun _ _ => 0) 2 (upd (fun _ => 0) 0 (-1))) 3 (upd (fun _ => 0) 0 (-1))
theorem MC.first {D : va_G} {g : Nat → ClassId} {b0 : Nat} {H : Heap} {q0 q1 q2 q3 q4 q5 q6 q7 q8 q9 q10 : Nat} (h1 : q0 < q1) (h2 : q1 < q2) (h3 : q2 < q3) (h4 : q3 < q4) (h5 : q4 < q5) (h6 : q5 < q6) (h7 : q6 < q7) (h8 : q7 < q8) (h9 : q8 < q9) (h10 : q9 < q10) (hb : b0 ≤ q0)
    (c0 : HA D H q0 (eO 4 [.ref q1, .ref q2, .ref q3, .int (nI 1), .ref q4, .int (nI 1), .ref q5, .ref q6, .ref q7, .ref q8, .ref q9, .ref q10, .int 0])) (c1 : HA D H q1 (eI (g 0) 1638400 (fun _ => 0))) (c2 : HA D H q2 (eI (g 1) 400 (upd (fun _ => 0) 0 (-1)))) (c3 : HA D H q3 (eI (g 1) 400 (upd (fun _ => 0) 0 (-1))))
    (c4 : HA D H q4 (eI (g 1) 40 (fun _ => 0))) (c5 : HA D H q5 (eI (g 3) 400 (fun _ => 0))) (c6 : HA D H q6 (eI (g 3) 400 (fun _ => 0))) (c7 : HA D H q7 (eI (g 0) 4096 (fun _ => 0))) (c8 : HA D H q8 (eI (g 1) 64 (fun _ => 0))) (c9 : HA D H q9 (eI (g 1) 64 (fun _ => 0))) (c10 : HA D H q10 (eI (g 1) 64 (fun _ => 0))) :
    MC D g b0 (M11 q0 q1 q2 q3 q4 q5 q6 q7 q8 q9 q10) 1 1 0 x0 H := by
  refine ⟨?_, ?_, ?_, ?_⟩
  · intro c c' hc hc' e
    rcases (show c = 0 ∨ c = 1 ∨ c = 2 ∨ c = 3 ∨ c = 4 ∨ c = 5 ∨ c = 6 ∨ c = 7 ∨ c = 8 ∨ c = 9 ∨ c = 10 by omega) with rfl | rfl | rfl | rfl | rfl | rfl | rfl | rfl | rfl | rfl | rfl <;>
    rcases (show c' = 0 ∨ c' = 1 ∨ c' = 2 ∨ c' = 3 ∨ c' = 4 ∨ c' = 5 ∨ c' = 6 ∨ c' = 7 ∨ c' = 8 ∨ c' = 9 ∨ c' = 10 by omega) with rfl | rfl | rfl | rfl | rfl | rfl | rfl | rfl | rfl | rfl | rfl <;>
    first
      | rfl
      | (exfalso
         simp only [M11] at e
         omega)
  · intro c hc
    rcases (show c = 0 ∨ c = 1 ∨ c = 2 ∨ c = 3 ∨ c = 4 ∨ c = 5 ∨ c = 6 ∨ c = 7 ∨ c = 8 ∨ c = 9 ∨ c = 10 by omega) with rfl | rfl | rfl | rfl | rfl | rfl | rfl | rfl | rfl | rfl | rfl <;> simp only [M11] <;> omega
  · show HA D H q0 (eO 4 [.ref q1, .ref q2, .ref q3, .int (nI 1), .ref q4, .int (nI 1), .ref q5, .ref q6, .ref q7, .ref q8, .ref q9, .ref q10, .int (nI 0)])
    rw [nI_0]
    exact c0
  · intro c hc hc2
    rcases (show c = 1 ∨ c = 2 ∨ c = 3 ∨ c = 4 ∨ c = 5 ∨ c = 6 ∨ c = 7 ∨ c = 8 ∨ c = 9 ∨ c = 10 by omega) with rfl | rfl | rfl | rfl | rfl | rfl | rfl | rfl | rfl | rfl
    · exact c1
    · exact c2
    · exact c3
    · exact c4
    · exact c5
    · exact c6
    · exact c7
    · exact c8
    · exact c9
    · exact c10
theorem Ini.mr {σ : SG} (h : Ini σ) (hw : WF σ) : MR σ x0 := by
  obtain ⟨hV, hB, hF, hS, hH, hW, -⟩ := h
  refine ⟨hw, ?_, ?_, ?_, ?_⟩
  · intro v t hv ht
    obtain rfl : v = 0 := by omega
    rw [Zer_bt hW ht]
    rfl
  · intro v hv
    obtain rfl : v = 0 := by omega
    rw [hF]
    rfl
  · intro v hv
    obtain rfl : v = 0 := by omega
    rw [hS]
    rfl
  · intro b hb
    obtain rfl : b = 0 := by omega
    rw [hH, nI_0]
    rfl
theorem Ini.mk {σ : SG} (h : Ini σ) : MK σ 0 x0 := MK.zero h.2.2.2.2.2.2 rfl x0
set_option maxHeartbeats 4000000 in
set_option maxRecDepth 100000 in
/-- VersionMerge() -/
theorem c_X3_init (l : Launch) (D : va_G) (g : Nat → ClassId) (b0 : Nat) (H : Heap) (q0 : Nat) (ho : HA D H q0 (eO 3 [.null, .null, .int 0, .int 0, .null, .null, .null])) (hb0 : b0 ≤ q0) (hbH : b0 ≤ H.size) : Met l yX3_init wsX3_init ({ frames := 4, cells := 13, slots := 1106, locals := 109 } : Room) (kPc D g [.ref q0] H) (kU (fun H1 => ∃ (A : Nat → Nat) (σ : SG) (dw : Nat → Int64), CR D g b0 A σ dw H1 ∧ A 0 = q0 ∧ Ini σ ∧ Chg H H1 q0)) 13 1106 (kF b0) := by
  refine Met.ofW (cc := cX3_init) (maxL := 1) (ret := none) (by decide) rfl ?_
  intro p e s m args below meth c s₁ B hml hv
  obtain ⟨rfl, hH, hK⟩ := hv
  have hx := B.exec
  have hb := B.bytes
  have hr := B.returns
  have hts := atoms_spec (ws := wsX3_init) B.pre
  have hown : s.vm.findClass RX3 = some m.cls := findClass_of_methodNamed B.named
  have hlocks := B.notSynchronized
  have hin : meth.name = "<init>" := (name_of_methodNamed B.named B.method).1
  rw [hH]
  have hl := lv_entry ([.ref q0]) (n := 1) (Nat.le_of_ble_eq_true rfl)
  rw [lg_entry_eq]
  generalize (lg_sl ([.ref q0]) ++ List.replicate (1 - (lg_sl ([.ref q0])).length) Slot.unset).toArray = ls at hl ⊢
  have hl : lv_has ls 1 [(0, .ref q0)] := hl
  have hlt0 := ho.lt
  have hF0 : Fr (fun x => x = q0) H H := Fr.rf
  refine lv_aload_n hx hb dX3_init_0 rfl (lv_at hl 0 rfl) ?_
  refine W.objInit hx hb hown (hts (.methodLink RX3 1 objectInit) (by decide +kernel)) (hts (.instanceMethod objectInit) (by decide +kernel)) (hts (.code objectInit ⟨#[0xb1]⟩ 1 none) (by decide +kernel)) rfl (by rw [hml]; exact hl.1) rfl dX3_init_1 (Nat.le_of_ble_eq_true rfl) (Nat.le_of_ble_eq_true rfl) ?_
  refine W.eq (g2 := F0 m 4 ls []) rfl ?_
  refine lv_aload_n hx hb dX3_init_4 rfl (lv_at hl 0 rfl) ?_
  refine lv_sipush (v := nI 400) hx hb dX3_init_5 (by decide +kernel) ?_
  refine k_newq hx hb hown (hts (.classLink RX3 9 RX2) (by decide +kernel)) hK.2.2.2.2 hK 5 rfl (N' := 400) (by decide +kernel) (by decide +kernel) (Nat.le_of_ble_eq_true rfl) (Nat.le_of_ble_eq_true rfl) (Nat.le_of_ble_eq_true rfl) dX3_init_8 (fun q_1162 H_1163 hw_1164 hA_1165 => ?_)
  refine W.widen (k := 1) (n := 400) (Nat.le_of_ble_eq_true rfl) (Nat.le_of_ble_eq_true rfl) ?_
  have hqe_q_1162 := hA_1165.1
  have ho_1166 := ho.add hA_1165
  have hF_1167 := hF0.add hA_1165
  have hz_1168 := hA_1165.2.1
  refine k_putF (ci := 3) (T := TX3) (N := 7) (v := .ref q_1162) hx hb hts (by decide +kernel) tyX3 tyX3_ok nmX3 hown (hin) hK ho_1166 LB.nil hb0 rfl 0 (by decide) rfl (hts (.fieldLink RX3 11 RX3 "versionRow" "[LVersionMerge$Version;") (by decide +kernel)) rfl (ty := .array (.object "VersionMerge$Version")) (by decide +kernel) rfl rfl (Nat.le_of_ble_eq_true rfl) dX3_init_11 (fun H_1169 locs_1170 ho_1171 hC_1172 hLB_1173 => ?_)
  have ho_1171 : HA D H_1169 q0 (eO 3 [.ref q_1162, .null, .int (0), .int (0), .null, .null, .null]) := ho_1171
  have hw_1174 := hw_1164.chg hC_1172 (by omega)
  have hF_1175 := hF_1167.chg hC_1172 (Or.inl rfl)
  have hz_1176 := hC_1172.1
  refine lv_aload_n hx hb dX3_init_14 rfl (lv_at hl 0 rfl) ?_
  refine lv_bipush (v := nI 40) hx hb dX3_init_15 (by decide +kernel) ?_
  refine k_newq hx hb hown (hts (.classLink RX3 15 RX0) (by decide +kernel)) hK.2.2.2.1 hK 4 rfl (N' := 40) (by decide +kernel) (by decide +kernel) (Nat.le_of_ble_eq_true rfl) (Nat.le_of_ble_eq_true rfl) (Nat.le_of_ble_eq_true rfl) dX3_init_17 (fun q_1177 H_1178 hw_1179 hA_1180 => ?_)
  refine W.widen (k := 2) (n := 440) (Nat.le_of_ble_eq_true rfl) (Nat.le_of_ble_eq_true rfl) ?_
  have hqe_q_1177 := hA_1180.1
  have ho_1181 := ho_1171.add hA_1180
  have hw_1182 := hw_1174.add hA_1180
  have hF_1183 := hF_1175.add hA_1180
  have hz_1184 := hA_1180.2.1
  refine k_putF (ci := 3) (T := TX3) (N := 7) (v := .ref q_1177) hx hb hts (by decide +kernel) tyX3 tyX3_ok nmX3 hown (hin) hK ho_1181 hLB_1173 hb0 rfl 1 (by decide) rfl (hts (.fieldLink RX3 17 RX3 "branchRow" "[LVersionMerge$Branch;") (by decide +kernel)) rfl (ty := .array (.object "VersionMerge$Branch")) (by decide +kernel) rfl rfl (Nat.le_of_ble_eq_true rfl) dX3_init_20 (fun H_1185 locs_1186 ho_1187 hC_1188 hLB_1189 => ?_)
  have ho_1187 : HA D H_1185 q0 (eO 3 [.ref q_1162, .ref q_1177, .int (0), .int (0), .null, .null, .null]) := ho_1187
  have hw_1190 := hw_1182.chg hC_1188 (by omega)
  have hw_1191 := hw_1179.chg hC_1188 (by omega)
  have hF_1192 := hF_1183.chg hC_1188 (Or.inl rfl)
  have hz_1193 := hC_1188.1
  refine lv_aload_n hx hb dX3_init_23 rfl (lv_at hl 0 rfl) ?_
  refine k_new (ci := 1) (C := RX1) (T := TX1) (N := 1) (fs := [.null]) hx hb hts (by decide +kernel) tyX1 tyX1_ok hown (hts (.classLink RX3 21 RX1) (by decide +kernel)) (hts (.instantiable RX1 1) (by decide +kernel)) (hts (.initialized RX1) (by decide +kernel)) hK rfl (fun j hj => by rw [show j = 0 by omega]; rfl) (Nat.le_of_ble_eq_true rfl) (Nat.le_of_ble_eq_true rfl) dX3_init_24 (fun q_1194 H_1195 ho_1196 hA_1197 => ?_)
  refine W.widen (k := 3) (n := 441) (Nat.le_of_ble_eq_true rfl) (Nat.le_of_ble_eq_true rfl) ?_
  have hqe_q_1194 := hA_1197.1
  have ho_1198 := ho_1187.add hA_1197
  have hw_1199 := hw_1190.add hA_1197
  have hw_1200 := hw_1191.add hA_1197
  have hF_1201 := hF_1192.add hA_1197
  have hz_1202 := hA_1197.2.1
  refine lv_dup hx hb dX3_init_27 rfl ?_
  refine k_callU (va_runIN (As := []) (rest := [.ref q_1194, .ref q0]) ⟨hx, hb, hml, hown, hts⟩ (c_X1_init l D g b0 H_1195 q_1194 ho_1196 (by omega) (by omega)) ⟨va_cnB 0 hts gX3_init_X1_init_n23 rfl rfl rfl (hK.2.1 (RX3, 23, yX1_init) (List.mem_of_getElem? (i := 0) rfl)) (hts (.initialized RX1) (by decide +kernel)) (by decide +kernel) ⟨Nat.le_of_ble_eq_true rfl, Nat.le_of_ble_eq_true rfl⟩, rfl, hts (.instanceMethod yX1_init) (by decide +kernel)⟩ ⟨kPc_blind, fun U hU hW => kPc_at hK hU hW⟩ rfl rfl hl.1 rfl (lv_room (Nat.le_of_ble_eq_true rfl)) dX3_init_28 ⟨Nat.le_of_ble_eq_true rfl, Nat.le_of_ble_eq_true rfl⟩) hLB_1189 (fun Hi1 locsi1 hLBi1 hqi1 => ?_)
  refine W.widen (k := 4) (n := 505) (Nat.le_of_ble_eq_true rfl) (Nat.le_of_ble_eq_true rfl) ?_
  obtain ⟨w1, hws1, hia1, hib1, hic1⟩ := hqi1
  have ho_1203 := ho_1198.chg hic1 (by omega)
  have hw_1204 := hw_1199.chg hic1 (by omega)
  have hw_1205 := hw_1200.chg hic1 (by omega)
  have hF_1206 := hF_1201.chg hic1 (Or.inr (by omega))
  have hz_1207 := hic1.1
  have hlw1 := hib1.lt
  refine k_putF (ci := 3) (T := TX3) (N := 7) (v := .ref q_1194) hx hb hts (by decide +kernel) tyX3 tyX3_ok nmX3 hown (hin) hK ho_1203 hLBi1 hb0 rfl 4 (by decide) rfl (hts (.fieldLink RX3 24 RX3 "nothing" "LVersionMerge$TripleSet;") (by decide +kernel)) rfl (ty := .object "VersionMerge$TripleSet") (by decide +kernel) rfl rfl (Nat.le_of_ble_eq_true rfl) dX3_init_31 (fun H_1208 locs_1209 ho_1210 hC_1211 hLB_1212 => ?_)
  have ho_1210 : HA D H_1208 q0 (eO 3 [.ref q_1162, .ref q_1177, .int (0), .int (0), .ref q_1194, .null, .null]) := ho_1210
  have ho_1213 := hia1.chg hC_1211 (by omega)
  have hw_1214 := hw_1204.chg hC_1211 (by omega)
  have hw_1215 := hw_1205.chg hC_1211 (by omega)
  have hw_1216 := hib1.chg hC_1211 (by omega)
  have hF_1217 := hF_1206.chg hC_1211 (Or.inl rfl)
  have hz_1218 := hC_1211.1
  refine lv_aload_n hx hb dX3_init_34 rfl (lv_at hl 0 rfl) ?_
  refine k_new (ci := 1) (C := RX1) (T := TX1) (N := 1) (fs := [.null]) hx hb hts (by decide +kernel) tyX1 tyX1_ok hown (hts (.classLink RX3 21 RX1) (by decide +kernel)) (hts (.instantiable RX1 1) (by decide +kernel)) (hts (.initialized RX1) (by decide +kernel)) hK rfl (fun j hj => by rw [show j = 0 by omega]; rfl) (Nat.le_of_ble_eq_true rfl) (Nat.le_of_ble_eq_true rfl) dX3_init_35 (fun q_1219 H_1220 ho_1221 hA_1222 => ?_)
  refine W.widen (k := 5) (n := 506) (Nat.le_of_ble_eq_true rfl) (Nat.le_of_ble_eq_true rfl) ?_
  have hqe_q_1219 := hA_1222.1
  have ho_1223 := ho_1210.add hA_1222
  have ho_1224 := ho_1213.add hA_1222
  have hw_1225 := hw_1214.add hA_1222
  have hw_1226 := hw_1215.add hA_1222
  have hw_1227 := hw_1216.add hA_1222
  have hF_1228 := hF_1217.add hA_1222
  have hz_1229 := hA_1222.2.1
  refine lv_dup hx hb dX3_init_38 rfl ?_
  refine k_callU (va_runIN (As := []) (rest := [.ref q_1219, .ref q0]) ⟨hx, hb, hml, hown, hts⟩ (c_X1_init l D g b0 H_1220 q_1219 ho_1221 (by omega) (by omega)) ⟨va_cnB 0 hts gX3_init_X1_init_n23 rfl rfl rfl (hK.2.1 (RX3, 23, yX1_init) (List.mem_of_getElem? (i := 0) rfl)) (hts (.initialized RX1) (by decide +kernel)) (by decide +kernel) ⟨Nat.le_of_ble_eq_true rfl, Nat.le_of_ble_eq_true rfl⟩, rfl, hts (.instanceMethod yX1_init) (by decide +kernel)⟩ ⟨kPc_blind, fun U hU hW => kPc_at hK hU hW⟩ rfl rfl hl.1 rfl (lv_room (Nat.le_of_ble_eq_true rfl)) dX3_init_39 ⟨Nat.le_of_ble_eq_true rfl, Nat.le_of_ble_eq_true rfl⟩) hLB_1212 (fun Hi2 locsi2 hLBi2 hqi2 => ?_)
  refine W.widen (k := 6) (n := 570) (Nat.le_of_ble_eq_true rfl) (Nat.le_of_ble_eq_true rfl) ?_
  obtain ⟨w2, hws2, hia2, hib2, hic2⟩ := hqi2
  have ho_1230 := ho_1223.chg hic2 (by omega)
  have ho_1231 := ho_1224.chg hic2 (by omega)
  have hw_1232 := hw_1225.chg hic2 (by omega)
  have hw_1233 := hw_1226.chg hic2 (by omega)
  have hw_1234 := hw_1227.chg hic2 (by omega)
  have hF_1235 := hF_1228.chg hic2 (Or.inr (by omega))
  have hz_1236 := hic2.1
  have hlw2 := hib2.lt
  refine k_putF (ci := 3) (T := TX3) (N := 7) (v := .ref q_1219) hx hb hts (by decide +kernel) tyX3 tyX3_ok nmX3 hown (hin) hK ho_1230 hLBi2 hb0 rfl 5 (by decide) rfl (hts (.fieldLink RX3 28 RX3 "merged" "LVersionMerge$TripleSet;") (by decide +kernel)) rfl (ty := .object "VersionMerge$TripleSet") (by decide +kernel) rfl rfl (Nat.le_of_ble_eq_true rfl) dX3_init_42 (fun H_1237 locs_1238 ho_1239 hC_1240 hLB_1241 => ?_)
  have ho_1239 : HA D H_1237 q0 (eO 3 [.ref q_1162, .ref q_1177, .int (0), .int (0), .ref q_1194, .ref q_1219, .null]) := ho_1239
  have ho_1242 := ho_1231.chg hC_1240 (by omega)
  have ho_1243 := hia2.chg hC_1240 (by omega)
  have hw_1244 := hw_1232.chg hC_1240 (by omega)
  have hw_1245 := hw_1233.chg hC_1240 (by omega)
  have hw_1246 := hw_1234.chg hC_1240 (by omega)
  have hw_1247 := hib2.chg hC_1240 (by omega)
  have hF_1248 := hF_1235.chg hC_1240 (Or.inl rfl)
  have hz_1249 := hC_1240.1
  refine lv_aload_n hx hb dX3_init_45 rfl (lv_at hl 0 rfl) ?_
  refine k_new (ci := 1) (C := RX1) (T := TX1) (N := 1) (fs := [.null]) hx hb hts (by decide +kernel) tyX1 tyX1_ok hown (hts (.classLink RX3 21 RX1) (by decide +kernel)) (hts (.instantiable RX1 1) (by decide +kernel)) (hts (.initialized RX1) (by decide +kernel)) hK rfl (fun j hj => by rw [show j = 0 by omega]; rfl) (Nat.le_of_ble_eq_true rfl) (Nat.le_of_ble_eq_true rfl) dX3_init_46 (fun q_1250 H_1251 ho_1252 hA_1253 => ?_)
  refine W.widen (k := 7) (n := 571) (Nat.le_of_ble_eq_true rfl) (Nat.le_of_ble_eq_true rfl) ?_
  have hqe_q_1250 := hA_1253.1
  have ho_1254 := ho_1239.add hA_1253
  have ho_1255 := ho_1242.add hA_1253
  have ho_1256 := ho_1243.add hA_1253
  have hw_1257 := hw_1244.add hA_1253
  have hw_1258 := hw_1245.add hA_1253
  have hw_1259 := hw_1246.add hA_1253
  have hw_1260 := hw_1247.add hA_1253
  have hF_1261 := hF_1248.add hA_1253
  have hz_1262 := hA_1253.2.1
  refine lv_dup hx hb dX3_init_49 rfl ?_
  refine k_callU (va_runIN (As := []) (rest := [.ref q_1250, .ref q0]) ⟨hx, hb, hml, hown, hts⟩ (c_X1_init l D g b0 H_1251 q_1250 ho_1252 (by omega) (by omega)) ⟨va_cnB 0 hts gX3_init_X1_init_n23 rfl rfl rfl (hK.2.1 (RX3, 23, yX1_init) (List.mem_of_getElem? (i := 0) rfl)) (hts (.initialized RX1) (by decide +kernel)) (by decide +kernel) ⟨Nat.le_of_ble_eq_true rfl, Nat.le_of_ble_eq_true rfl⟩, rfl, hts (.instanceMethod yX1_init) (by decide +kernel)⟩ ⟨kPc_blind, fun U hU hW => kPc_at hK hU hW⟩ rfl rfl hl.1 rfl (lv_room (Nat.le_of_ble_eq_true rfl)) dX3_init_50 ⟨Nat.le_of_ble_eq_true rfl, Nat.le_of_ble_eq_true rfl⟩) hLB_1241 (fun Hi3 locsi3 hLBi3 hqi3 => ?_)
  refine W.widen (k := 8) (n := 635) (Nat.le_of_ble_eq_true rfl) (Nat.le_of_ble_eq_true rfl) ?_
  obtain ⟨w3, hws3, hia3, hib3, hic3⟩ := hqi3
  have ho_1263 := ho_1254.chg hic3 (by omega)
  have ho_1264 := ho_1255.chg hic3 (by omega)
  have ho_1265 := ho_1256.chg hic3 (by omega)
  have hw_1266 := hw_1257.chg hic3 (by omega)
  have hw_1267 := hw_1258.chg hic3 (by omega)
  have hw_1268 := hw_1259.chg hic3 (by omega)
  have hw_1269 := hw_1260.chg hic3 (by omega)
  have hF_1270 := hF_1261.chg hic3 (Or.inr (by omega))
  have hz_1271 := hic3.1
  have hlw3 := hib3.lt
  refine k_putF (ci := 3) (T := TX3) (N := 7) (v := .ref q_1250) hx hb hts (by decide +kernel) tyX3 tyX3_ok nmX3 hown (hin) hK ho_1263 hLBi3 hb0 rfl 6 (by decide) rfl (hts (.fieldLink RX3 31 RX3 "draft" "LVersionMerge$TripleSet;") (by decide +kernel)) rfl (ty := .object "VersionMerge$TripleSet") (by decide +kernel) rfl rfl (Nat.le_of_ble_eq_true rfl) dX3_init_53 (fun H_1272 locs_1273 ho_1274 hC_1275 hLB_1276 => ?_)
  have ho_1274 : HA D H_1272 q0 (eO 3 [.ref q_1162, .ref q_1177, .int (0), .int (0), .ref q_1194, .ref q_1219, .ref q_1250]) := ho_1274
  have ho_1277 := ho_1264.chg hC_1275 (by omega)
  have ho_1278 := ho_1265.chg hC_1275 (by omega)
  have ho_1279 := hia3.chg hC_1275 (by omega)
  have hw_1280 := hw_1266.chg hC_1275 (by omega)
  have hw_1281 := hw_1267.chg hC_1275 (by omega)
  have hw_1282 := hw_1268.chg hC_1275 (by omega)
  have hw_1283 := hw_1269.chg hC_1275 (by omega)
  have hw_1284 := hib3.chg hC_1275 (by omega)
  have hF_1285 := hF_1270.chg hC_1275 (Or.inl rfl)
  have hz_1286 := hC_1275.1
  refine lv_aload_n hx hb dX3_init_56 rfl (lv_at hl 0 rfl) ?_
  refine lv_aload_n hx hb dX3_init_57 rfl (lv_at hl 0 rfl) ?_
  refine lv_null hx hb dX3_init_58 ?_
  refine lv_null hx hb dX3_init_59 ?_
  refine lv_aload_n hx hb dX3_init_60 rfl (lv_at hl 0 rfl) ?_
  refine k_get (ci := 3) (C := RX3) (T := TX3) (N := 7) (v := .ref q_1194) hx hb hts (by decide +kernel) hown hK ho_1274 rfl 4 (by decide) rfl (hts (.fieldLink RX3 24 RX3 "nothing" "LVersionMerge$TripleSet;") (by decide +kernel)) rfl dX3_init_61 ?_
  have hC0 : CR D g b0 (A9 q0 q_1162 q_1177 q_1194 w1 q_1219 w2 q_1250 w3) s0 (fun _ => 0) H_1272 := CR.first (by omega) (by omega) (by omega) (by omega) (by omega) (by omega) (by omega) (by omega) hb0 ho_1274 hw_1280 hw_1281 ho_1277 hw_1282 ho_1278 hw_1283 ho_1279 hw_1284
  have hcv := c_X3_addVersion_00 l D g b0 H_1272 (A9 q0 q_1162 q_1177 q_1194 w1 q_1219 w2 q_1250 w3) s0 (fun _ => 0) hC0 3 (fun _ => 0) (cl0 (by omega)) (cl0 (by omega)) hC0.nt hC0.nw (by omega) (show (0 : Nat) < 400 by omega)
  refine k_callR (va_runV (As := [.null, .null, .ref q_1194]) (rest := [.ref q0]) ⟨hx, hb, hml, hown, hts⟩ (hcv) (cwV 3 hts gX3_init_X3_addVersion rfl rfl rfl (by decide +kernel) ⟨Nat.le_of_ble_eq_true rfl, Nat.le_of_ble_eq_true rfl⟩) ⟨kPc_blind, k_recv hK ho_1274 rfl, fun U hU hW => kPc_at hK hU hW⟩ rfl rfl hl.1 rfl (lv_room (Nat.le_of_ble_eq_true rfl)) dX3_init_64 ⟨Nat.le_of_ble_eq_true rfl, Nat.le_of_ble_eq_true rfl⟩) hLB_1276 (fun va Hv locsv hLBv hqv => ?_)
  refine W.widen (k := 12) (n := 1105) (Nat.le_of_ble_eq_true rfl) (Nat.le_of_ble_eq_true rfl) ?_
  obtain ⟨y1, y2, y3, wv, anv, hCv, hFv, hwv, hanv⟩ := hqv
  obtain ⟨A1, hA1⟩ : ∃ A1, A1 = AV (A9 q0 q_1162 q_1177 q_1194 w1 q_1219 w2 q_1250 w3) (sV s0) va y1 y2 y3 := ⟨_, rfl⟩
  rw [← hA1] at hCv hFv
  have hA10 : A1 0 = q0 := hFv.2.2
  have hA16 : A1 (16 + 4 * 0) = va := by rw [hA1]; exact AV0 (A9 q0 q_1162 q_1177 q_1194 w1 q_1219 w2 q_1250 w3) (sV s0) va y1 y2 y3
  have hbHv : b0 ≤ Hv.size := Nat.le_trans (show b0 ≤ H_1272.size by omega) hFv.1
  have hcb := c_X3_addBranch l D g b0 Hv A1 (gGrow s0 none none wv anv) (fun _ => 0) hCv hbHv (show (0 : Nat) < 40 by omega) 0 (Nat.lt_succ_self _)
  have hov := hCv.o
  rw [hA10, hA16] at hcb
  rw [hA10] at hov
  refine k_callI (va_runV (As := [.ref va]) (rest := []) ⟨hx, hb, hml, hown, hts⟩ (hcb) (cwV 1 hts gX3_init_X3_addBranch rfl rfl rfl (by decide +kernel) ⟨Nat.le_of_ble_eq_true rfl, Nat.le_of_ble_eq_true rfl⟩) ⟨kPc_blind, k_recv hK hov rfl, fun U hU hW => kPc_at hK hU hW⟩ rfl rfl hl.1 rfl (lv_room (Nat.le_of_ble_eq_true rfl)) dX3_init_67 ⟨Nat.le_of_ble_eq_true rfl, Nat.le_of_ble_eq_true rfl⟩) hLBv (fun rb Hb locsb hLBb hqb => ?_)
  refine W.widen (k := 13) (n := 1106) (Nat.le_of_ble_eq_true rfl) (Nat.le_of_ble_eq_true rfl) ?_
  obtain ⟨hrb, A2, hCb, hFb⟩ := hqb
  refine lv_pop hx hb dX3_init_70 rfl ?_
  have hCh : Chg H Hb q0 := by
    have hsz : H.size ≤ H_1272.size := by omega
    refine ⟨Nat.le_trans hsz (Nat.le_trans hFv.1 hFb.1), fun q hq hn => ?_⟩
    have h1 := hF_1285.2 q hq (fun z => hn z)
    have hq9 : ∀ c, cLive s0 c → q ≠ A9 q0 q_1162 q_1177 q_1194 w1 q_1219 w2 q_1250 w3 c := by
      intro c hc
      have hc := cl_s0 c hc
      rcases (show c = 0 ∨ c = 1 ∨ c = 2 ∨ c = 3 ∨ c = 4 ∨ c = 5 ∨ c = 6 ∨ c = 7 ∨ c = 8 by omega) with rfl | rfl | rfl | rfl | rfl | rfl | rfl | rfl | rfl <;> simp only [A9] <;> omega
    have h2 := hFv.2.1 q (by omega) hq9
    exact ((hFb.2.1 q (Nat.lt_of_lt_of_le (show q < H_1272.size by omega) hFv.1) h2.2).1.trans h2.1).trans h1
  exact r_vU hx hb hr hLBb (Nat.le_of_ble_eq_true rfl) (Nat.le_of_ble_eq_true rfl) ⟨A2, _, _, hCb, hFb.2.2.trans hA10, ⟨rfl, rfl, rfl, rfl, rfl, (fun j hj => by show va_up (sW s0) (sV s0) wv 0 j = 0; rw [show va_up (sW s0) (sV s0) wv 0 = wv from up_eq _ _ _]; exact hwv j hj), (fun _ _ => rfl)⟩, hCh⟩ dX3_init_71 hlocks
set_option maxHeartbeats 4000000 in
set_option maxRecDepth 100000 in
/-- VersionMergeModel() -/
theorem c_X4_init (l : Launch) (D : va_G) (g : Nat → ClassId) (b0 : Nat) (H : Heap) (q0 : Nat) (ho : HA D H q0 (eO 4 [.null, .null, .null, .int 0, .null, .int 0, .null, .null, .null, .null, .null, .null, .int 0])) (hb0 : b0 ≤ q0) (hbH : b0 ≤ H.size) : Met l yX4_init wsX4_init ({ frames := 1, cells := 10, slots := 1644328, locals := 12 } : Room) (kPc D g [.ref q0] H) (kU (fun H1 => ∃ μ : Nat → Nat, MC D g b0 μ 1 1 0 x0 H1 ∧ μ 0 = q0 ∧ (∀ i, 1 ≤ i → i ≤ 10 → H.size ≤ μ i) ∧ Chg H H1 q0)) 10 1644328 (kF b0) := by
  refine Met.ofW (cc := cX4_init) (maxL := 1) (ret := none) (by decide) rfl ?_
  intro p e s m args below meth c s₁ B hml hv
  obtain ⟨rfl, hH, hK⟩ := hv
  have hx := B.exec
  have hb := B.bytes
  have hr := B.returns
  have hts := atoms_spec (ws := wsX4_init) B.pre
  have hown : s.vm.findClass RX4 = some m.cls := findClass_of_methodNamed B.named
  have hlocks := B.notSynchronized
  have hin : meth.name = "<init>" := (name_of_methodNamed B.named B.method).1
  rw [hH]
  have hl := lv_entry ([.ref q0]) (n := 1) (Nat.le_of_ble_eq_true rfl)
  rw [lg_entry_eq]
  generalize (lg_sl ([.ref q0]) ++ List.replicate (1 - (lg_sl ([.ref q0])).length) Slot.unset).toArray = ls at hl ⊢
  have hl : lv_has ls 1 [(0, .ref q0)] := hl
  have hlt0 := ho.lt
  have hF0 : Fr (fun x => x = q0) H H := Fr.rf
  refine lv_aload_n hx hb dX4_init_0 rfl (lv_at hl 0 rfl) ?_
  refine W.objInit hx hb hown (hts (.methodLink RX4 1 objectInit) (by decide +kernel)) (hts (.instanceMethod objectInit) (by decide +kernel)) (hts (.code objectInit ⟨#[0xb1]⟩ 1 none) (by decide +kernel)) rfl (by rw [hml]; exact hl.1) rfl dX4_init_1 (Nat.le_of_ble_eq_true rfl) (Nat.le_of_ble_eq_true rfl) ?_
  refine W.eq (g2 := F0 m 4 ls []) rfl ?_
  refine lv_aload_n hx hb dX4_init_4 rfl (lv_at hl 0 rfl) ?_
  refine lv_ldc (v := nI 1638400) hx hb hown (hts (.constant RX4 7 (1638400)) (by decide +kernel)) dX4_init_5 ?_
  refine k_newa (atype := .byte) hx hb (hts (.arrayClass .byte) (by decide +kernel)) hK 0 (ty := .byte) rfl rfl rfl (1638400, .inl (fun _ => 0)) (fun _ => rfl) (by decide +kernel) (by decide +kernel) (Nat.le_of_ble_eq_true rfl) (Nat.le_of_ble_eq_true rfl) (Nat.le_of_ble_eq_true rfl) dX4_init_7 (fun q_1287 H_1288 hw_1289 hA_1290 => ?_)
  refine W.widen (k := 1) (n := 1638400) (Nat.le_of_ble_eq_true rfl) (Nat.le_of_ble_eq_true rfl) ?_
  have hqe_q_1287 := hA_1290.1
  have ho_1291 := ho.add hA_1290
  have hF_1292 := hF0.add hA_1290
  have hz_1293 := hA_1290.2.1
  refine k_putF (ci := 4) (T := TX4) (N := 13) (v := .ref q_1287) hx hb hts (by decide +kernel) tyX4 tyX4_ok nmX4 hown (hin) hK ho_1291 LB.nil hb0 rfl 0 (by decide) rfl (hts (.fieldLink RX4 8 RX4 "sets" "[B") (by decide +kernel)) rfl (ty := .array .byte) (by decide +kernel) rfl rfl (Nat.le_of_ble_eq_true rfl) dX4_init_9 (fun H_1294 locs_1295 ho_1296 hC_1297 hLB_1298 => ?_)
  have ho_1296 : HA D H_1294 q0 (eO 4 [.ref q_1287, .null, .null, .int (0), .null, .int (0), .null, .null, .null, .null, .null, .null, .int (0)]) := ho_1296
  have hw_1299 := hw_1289.chg hC_1297 (by omega)
  have hF_1300 := hF_1292.chg hC_1297 (Or.inl rfl)
  have hz_1301 := hC_1297.1
  refine lv_aload_n hx hb dX4_init_12 rfl (lv_at hl 0 rfl) ?_
  refine lv_sipush (v := nI 400) hx hb dX4_init_13 (by decide +kernel) ?_
  refine k_newa (atype := .int) hx hb (hts (.arrayClass .int) (by decide +kernel)) hK 1 (ty := .int) rfl rfl rfl (400, .inl (fun _ => 0)) (fun _ => rfl) (by decide +kernel) (by decide +kernel) (Nat.le_of_ble_eq_true rfl) (Nat.le_of_ble_eq_true rfl) (Nat.le_of_ble_eq_true rfl) dX4_init_16 (fun q_1302 H_1303 hw_1304 hA_1305 => ?_)
  refine W.widen (k := 2) (n := 1638800) (Nat.le_of_ble_eq_true rfl) (Nat.le_of_ble_eq_true rfl) ?_
  have hqe_q_1302 := hA_1305.1
  have ho_1306 := ho_1296.add hA_1305
  have hw_1307 := hw_1299.add hA_1305
  have hF_1308 := hF_1300.add hA_1305
  have hz_1309 := hA_1305.2.1
  refine k_putF (ci := 4) (T := TX4) (N := 13) (v := .ref q_1302) hx hb hts (by decide +kernel) tyX4 tyX4_ok nmX4 hown (hin) hK ho_1306 hLB_1298 hb0 rfl 1 (by decide) rfl (hts (.fieldLink RX4 14 RX4 "firsts" "[I") (by decide +kernel)) rfl (ty := .array .int) (by decide +kernel) rfl rfl (Nat.le_of_ble_eq_true rfl) dX4_init_18 (fun H_1310 locs_1311 ho_1312 hC_1313 hLB_1314 => ?_)
  have ho_1312 : HA D H_1310 q0 (eO 4 [.ref q_1287, .ref q_1302, .null, .int (0), .null, .int (0), .null, .null, .null, .null, .null, .null, .int (0)]) := ho_1312
  have hw_1315 := hw_1307.chg hC_1313 (by omega)
  have hw_1316 := hw_1304.chg hC_1313 (by omega)
  have hF_1317 := hF_1308.chg hC_1313 (Or.inl rfl)
  have hz_1318 := hC_1313.1
  refine lv_aload_n hx hb dX4_init_21 rfl (lv_at hl 0 rfl) ?_
  refine lv_sipush (v := nI 400) hx hb dX4_init_22 (by decide +kernel) ?_
  refine k_newa (atype := .int) hx hb (hts (.arrayClass .int) (by decide +kernel)) hK 1 (ty := .int) rfl rfl rfl (400, .inl (fun _ => 0)) (fun _ => rfl) (by decide +kernel) (by decide +kernel) (Nat.le_of_ble_eq_true rfl) (Nat.le_of_ble_eq_true rfl) (Nat.le_of_ble_eq_true rfl) dX4_init_25 (fun q_1319 H_1320 hw_1321 hA_1322 => ?_)
  refine W.widen (k := 3) (n := 1639200) (Nat.le_of_ble_eq_true rfl) (Nat.le_of_ble_eq_true rfl) ?_
  have hqe_q_1319 := hA_1322.1
  have ho_1323 := ho_1312.add hA_1322
  have hw_1324 := hw_1315.add hA_1322
  have hw_1325 := hw_1316.add hA_1322
  have hF_1326 := hF_1317.add hA_1322
  have hz_1327 := hA_1322.2.1
  refine k_putF (ci := 4) (T := TX4) (N := 13) (v := .ref q_1319) hx hb hts (by decide +kernel) tyX4 tyX4_ok nmX4 hown (hin) hK ho_1323 hLB_1314 hb0 rfl 2 (by decide) rfl (hts (.fieldLink RX4 18 RX4 "seconds" "[I") (by decide +kernel)) rfl (ty := .array .int) (by decide +kernel) rfl rfl (Nat.le_of_ble_eq_true rfl) dX4_init_27 (fun H_1328 locs_1329 ho_1330 hC_1331 hLB_1332 => ?_)
  have ho_1330 : HA D H_1328 q0 (eO 4 [.ref q_1287, .ref q_1302, .ref q_1319, .int (0), .null, .int (0), .null, .null, .null, .null, .null, .null, .int (0)]) := ho_1330
  have hw_1333 := hw_1324.chg hC_1331 (by omega)
  have hw_1334 := hw_1325.chg hC_1331 (by omega)
  have hw_1335 := hw_1321.chg hC_1331 (by omega)
  have hF_1336 := hF_1326.chg hC_1331 (Or.inl rfl)
  have hz_1337 := hC_1331.1
  refine lv_aload_n hx hb dX4_init_30 rfl (lv_at hl 0 rfl) ?_
  refine lv_bipush (v := nI 40) hx hb dX4_init_31 (by decide +kernel) ?_
  refine k_newa (atype := .int) hx hb (hts (.arrayClass .int) (by decide +kernel)) hK 1 (ty := .int) rfl rfl rfl (40, .inl (fun _ => 0)) (fun _ => rfl) (by decide +kernel) (by decide +kernel) (Nat.le_of_ble_eq_true rfl) (Nat.le_of_ble_eq_true rfl) (Nat.le_of_ble_eq_true rfl) dX4_init_33 (fun q_1338 H_1339 hw_1340 hA_1341 => ?_)
  refine W.widen (k := 4) (n := 1639240) (Nat.le_of_ble_eq_true rfl) (Nat.le_of_ble_eq_true rfl) ?_
  have hqe_q_1338 := hA_1341.1
  have ho_1342 := ho_1330.add hA_1341
  have hw_1343 := hw_1333.add hA_1341
  have hw_1344 := hw_1334.add hA_1341
  have hw_1345 := hw_1335.add hA_1341
  have hF_1346 := hF_1336.add hA_1341
  have hz_1347 := hA_1341.2.1
  refine k_putF (ci := 4) (T := TX4) (N := 13) (v := .ref q_1338) hx hb hts (by decide +kernel) tyX4 tyX4_ok nmX4 hown (hin) hK ho_1342 hLB_1332 hb0 rfl 4 (by decide) rfl (hts (.fieldLink RX4 21 RX4 "heads" "[I") (by decide +kernel)) rfl (ty := .array .int) (by decide +kernel) rfl rfl (Nat.le_of_ble_eq_true rfl) dX4_init_35 (fun H_1348 locs_1349 ho_1350 hC_1351 hLB_1352 => ?_)
  have ho_1350 : HA D H_1348 q0 (eO 4 [.ref q_1287, .ref q_1302, .ref q_1319, .int (0), .ref q_1338, .int (0), .null, .null, .null, .null, .null, .null, .int (0)]) := ho_1350
  have hw_1353 := hw_1343.chg hC_1351 (by omega)
  have hw_1354 := hw_1344.chg hC_1351 (by omega)
  have hw_1355 := hw_1345.chg hC_1351 (by omega)
  have hw_1356 := hw_1340.chg hC_1351 (by omega)
  have hF_1357 := hF_1346.chg hC_1351 (Or.inl rfl)
  have hz_1358 := hC_1351.1
  refine lv_aload_n hx hb dX4_init_38 rfl (lv_at hl 0 rfl) ?_
  refine lv_sipush (v := nI 400) hx hb dX4_init_39 (by decide +kernel) ?_
  refine k_newa (atype := .boolean) hx hb (hts (.arrayClass .boolean) (by decide +kernel)) hK 3 (ty := .boolean) rfl rfl rfl (400, .inl (fun _ => 0)) (fun _ => rfl) (by decide +kernel) (by decide +kernel) (Nat.le_of_ble_eq_true rfl) (Nat.le_of_ble_eq_true rfl) (Nat.le_of_ble_eq_true rfl) dX4_init_42 (fun q_1359 H_1360 hw_1361 hA_1362 => ?_)
  refine W.widen (k := 5) (n := 1639640) (Nat.le_of_ble_eq_true rfl) (Nat.le_of_ble_eq_true rfl) ?_
  have hqe_q_1359 := hA_1362.1
  have ho_1363 := ho_1350.add hA_1362
  have hw_1364 := hw_1353.add hA_1362
  have hw_1365 := hw_1354.add hA_1362
  have hw_1366 := hw_1355.add hA_1362
  have hw_1367 := hw_1356.add hA_1362
  have hF_1368 := hF_1357.add hA_1362
  have hz_1369 := hA_1362.2.1
  refine k_putF (ci := 4) (T := TX4) (N := 13) (v := .ref q_1359) hx hb hts (by decide +kernel) tyX4 tyX4_ok nmX4 hown (hin) hK ho_1363 hLB_1352 hb0 rfl 6 (by decide) rfl (hts (.fieldLink RX4 24 RX4 "ones" "[Z") (by decide +kernel)) rfl (ty := .array .boolean) (by decide +kernel) rfl rfl (Nat.le_of_ble_eq_true rfl) dX4_init_44 (fun H_1370 locs_1371 ho_1372 hC_1373 hLB_1374 => ?_)
  have ho_1372 : HA D H_1370 q0 (eO 4 [.ref q_1287, .ref q_1302, .ref q_1319, .int (0), .ref q_1338, .int (0), .ref q_1359, .null, .null, .null, .null, .null, .int (0)]) := ho_1372
  have hw_1375 := hw_1364.chg hC_1373 (by omega)
  have hw_1376 := hw_1365.chg hC_1373 (by omega)
  have hw_1377 := hw_1366.chg hC_1373 (by omega)
  have hw_1378 := hw_1367.chg hC_1373 (by omega)
  have hw_1379 := hw_1361.chg hC_1373 (by omega)
  have hF_1380 := hF_1368.chg hC_1373 (Or.inl rfl)
  have hz_1381 := hC_1373.1
  refine lv_aload_n hx hb dX4_init_47 rfl (lv_at hl 0 rfl) ?_
  refine lv_sipush (v := nI 400) hx hb dX4_init_48 (by decide +kernel) ?_
  refine k_newa (atype := .boolean) hx hb (hts (.arrayClass .boolean) (by decide +kernel)) hK 3 (ty := .boolean) rfl rfl rfl (400, .inl (fun _ => 0)) (fun _ => rfl) (by decide +kernel) (by decide +kernel) (Nat.le_of_ble_eq_true rfl) (Nat.le_of_ble_eq_true rfl) (Nat.le_of_ble_eq_true rfl) dX4_init_51 (fun q_1382 H_1383 hw_1384 hA_1385 => ?_)
  refine W.widen (k := 6) (n := 1640040) (Nat.le_of_ble_eq_true rfl) (Nat.le_of_ble_eq_true rfl) ?_
  have hqe_q_1382 := hA_1385.1
  have ho_1386 := ho_1372.add hA_1385
  have hw_1387 := hw_1375.add hA_1385
  have hw_1388 := hw_1376.add hA_1385
  have hw_1389 := hw_1377.add hA_1385
  have hw_1390 := hw_1378.add hA_1385
  have hw_1391 := hw_1379.add hA_1385
  have hF_1392 := hF_1380.add hA_1385
  have hz_1393 := hA_1385.2.1
  refine k_putF (ci := 4) (T := TX4) (N := 13) (v := .ref q_1382) hx hb hts (by decide +kernel) tyX4 tyX4_ok nmX4 hown (hin) hK ho_1386 hLB_1374 hb0 rfl 7 (by decide) rfl (hts (.fieldLink RX4 28 RX4 "twos" "[Z") (by decide +kernel)) rfl (ty := .array .boolean) (by decide +kernel) rfl rfl (Nat.le_of_ble_eq_true rfl) dX4_init_53 (fun H_1394 locs_1395 ho_1396 hC_1397 hLB_1398 => ?_)
  have ho_1396 : HA D H_1394 q0 (eO 4 [.ref q_1287, .ref q_1302, .ref q_1319, .int (0), .ref q_1338, .int (0), .ref q_1359, .ref q_1382, .null, .null, .null, .null, .int (0)]) := ho_1396
  have hw_1399 := hw_1387.chg hC_1397 (by omega)
  have hw_1400 := hw_1388.chg hC_1397 (by omega)
  have hw_1401 := hw_1389.chg hC_1397 (by omega)
  have hw_1402 := hw_1390.chg hC_1397 (by omega)
  have hw_1403 := hw_1391.chg hC_1397 (by omega)
  have hw_1404 := hw_1384.chg hC_1397 (by omega)
  have hF_1405 := hF_1392.chg hC_1397 (Or.inl rfl)
  have hz_1406 := hC_1397.1
  refine lv_aload_n hx hb dX4_init_56 rfl (lv_at hl 0 rfl) ?_
  refine lv_sipush (v := nI 4096) hx hb dX4_init_57 (by decide +kernel) ?_
  refine k_newa (atype := .byte) hx hb (hts (.arrayClass .byte) (by decide +kernel)) hK 0 (ty := .byte) rfl rfl rfl (4096, .inl (fun _ => 0)) (fun _ => rfl) (by decide +kernel) (by decide +kernel) (Nat.le_of_ble_eq_true rfl) (Nat.le_of_ble_eq_true rfl) (Nat.le_of_ble_eq_true rfl) dX4_init_60 (fun q_1407 H_1408 hw_1409 hA_1410 => ?_)
  refine W.widen (k := 7) (n := 1644136) (Nat.le_of_ble_eq_true rfl) (Nat.le_of_ble_eq_true rfl) ?_
  have hqe_q_1407 := hA_1410.1
  have ho_1411 := ho_1396.add hA_1410
  have hw_1412 := hw_1399.add hA_1410
  have hw_1413 := hw_1400.add hA_1410
  have hw_1414 := hw_1401.add hA_1410
  have hw_1415 := hw_1402.add hA_1410
  have hw_1416 := hw_1403.add hA_1410
  have hw_1417 := hw_1404.add hA_1410
  have hF_1418 := hF_1405.add hA_1410
  have hz_1419 := hA_1410.2.1
  refine k_putF (ci := 4) (T := TX4) (N := 13) (v := .ref q_1407) hx hb hts (by decide +kernel) tyX4 tyX4_ok nmX4 hown (hin) hK ho_1411 hLB_1398 hb0 rfl 8 (by decide) rfl (hts (.fieldLink RX4 31 RX4 "hand" "[B") (by decide +kernel)) rfl (ty := .array .byte) (by decide +kernel) rfl rfl (Nat.le_of_ble_eq_true rfl) dX4_init_62 (fun H_1420 locs_1421 ho_1422 hC_1423 hLB_1424 => ?_)
  have ho_1422 : HA D H_1420 q0 (eO 4 [.ref q_1287, .ref q_1302, .ref q_1319, .int (0), .ref q_1338, .int (0), .ref q_1359, .ref q_1382, .ref q_1407, .null, .null, .null, .int (0)]) := ho_1422
  have hw_1425 := hw_1412.chg hC_1423 (by omega)
  have hw_1426 := hw_1413.chg hC_1423 (by omega)
  have hw_1427 := hw_1414.chg hC_1423 (by omega)
  have hw_1428 := hw_1415.chg hC_1423 (by omega)
  have hw_1429 := hw_1416.chg hC_1423 (by omega)
  have hw_1430 := hw_1417.chg hC_1423 (by omega)
  have hw_1431 := hw_1409.chg hC_1423 (by omega)
  have hF_1432 := hF_1418.chg hC_1423 (Or.inl rfl)
  have hz_1433 := hC_1423.1
  refine lv_aload_n hx hb dX4_init_65 rfl (lv_at hl 0 rfl) ?_
  refine lv_bipush (v := nI 64) hx hb dX4_init_66 (by decide +kernel) ?_
  refine k_newa (atype := .int) hx hb (hts (.arrayClass .int) (by decide +kernel)) hK 1 (ty := .int) rfl rfl rfl (64, .inl (fun _ => 0)) (fun _ => rfl) (by decide +kernel) (by decide +kernel) (Nat.le_of_ble_eq_true rfl) (Nat.le_of_ble_eq_true rfl) (Nat.le_of_ble_eq_true rfl) dX4_init_68 (fun q_1434 H_1435 hw_1436 hA_1437 => ?_)
  refine W.widen (k := 8) (n := 1644200) (Nat.le_of_ble_eq_true rfl) (Nat.le_of_ble_eq_true rfl) ?_
  have hqe_q_1434 := hA_1437.1
  have ho_1438 := ho_1422.add hA_1437
  have hw_1439 := hw_1425.add hA_1437
  have hw_1440 := hw_1426.add hA_1437
  have hw_1441 := hw_1427.add hA_1437
  have hw_1442 := hw_1428.add hA_1437
  have hw_1443 := hw_1429.add hA_1437
  have hw_1444 := hw_1430.add hA_1437
  have hw_1445 := hw_1431.add hA_1437
  have hF_1446 := hF_1432.add hA_1437
  have hz_1447 := hA_1437.2.1
  refine k_putF (ci := 4) (T := TX4) (N := 13) (v := .ref q_1434) hx hb hts (by decide +kernel) tyX4 tyX4_ok nmX4 hown (hin) hK ho_1438 hLB_1424 hb0 rfl 9 (by decide) rfl (hts (.fieldLink RX4 34 RX4 "keys" "[I") (by decide +kernel)) rfl (ty := .array .int) (by decide +kernel) rfl rfl (Nat.le_of_ble_eq_true rfl) dX4_init_70 (fun H_1448 locs_1449 ho_1450 hC_1451 hLB_1452 => ?_)
  have ho_1450 : HA D H_1448 q0 (eO 4 [.ref q_1287, .ref q_1302, .ref q_1319, .int (0), .ref q_1338, .int (0), .ref q_1359, .ref q_1382, .ref q_1407, .ref q_1434, .null, .null, .int (0)]) := ho_1450
  have hw_1453 := hw_1439.chg hC_1451 (by omega)
  have hw_1454 := hw_1440.chg hC_1451 (by omega)
  have hw_1455 := hw_1441.chg hC_1451 (by omega)
  have hw_1456 := hw_1442.chg hC_1451 (by omega)
  have hw_1457 := hw_1443.chg hC_1451 (by omega)
  have hw_1458 := hw_1444.chg hC_1451 (by omega)
  have hw_1459 := hw_1445.chg hC_1451 (by omega)
  have hw_1460 := hw_1436.chg hC_1451 (by omega)
  have hF_1461 := hF_1446.chg hC_1451 (Or.inl rfl)
  have hz_1462 := hC_1451.1
  refine lv_aload_n hx hb dX4_init_73 rfl (lv_at hl 0 rfl) ?_
  refine lv_bipush (v := nI 64) hx hb dX4_init_74 (by decide +kernel) ?_
  refine k_newa (atype := .int) hx hb (hts (.arrayClass .int) (by decide +kernel)) hK 1 (ty := .int) rfl rfl rfl (64, .inl (fun _ => 0)) (fun _ => rfl) (by decide +kernel) (by decide +kernel) (Nat.le_of_ble_eq_true rfl) (Nat.le_of_ble_eq_true rfl) (Nat.le_of_ble_eq_true rfl) dX4_init_76 (fun q_1463 H_1464 hw_1465 hA_1466 => ?_)
  refine W.widen (k := 9) (n := 1644264) (Nat.le_of_ble_eq_true rfl) (Nat.le_of_ble_eq_true rfl) ?_
  have hqe_q_1463 := hA_1466.1
  have ho_1467 := ho_1450.add hA_1466
  have hw_1468 := hw_1453.add hA_1466
  have hw_1469 := hw_1454.add hA_1466
  have hw_1470 := hw_1455.add hA_1466
  have hw_1471 := hw_1456.add hA_1466
  have hw_1472 := hw_1457.add hA_1466
  have hw_1473 := hw_1458.add hA_1466
  have hw_1474 := hw_1459.add hA_1466
  have hw_1475 := hw_1460.add hA_1466
  have hF_1476 := hF_1461.add hA_1466
  have hz_1477 := hA_1466.2.1
  refine k_putF (ci := 4) (T := TX4) (N := 13) (v := .ref q_1463) hx hb hts (by decide +kernel) tyX4 tyX4_ok nmX4 hown (hin) hK ho_1467 hLB_1452 hb0 rfl 10 (by decide) rfl (hts (.fieldLink RX4 37 RX4 "least" "[I") (by decide +kernel)) rfl (ty := .array .int) (by decide +kernel) rfl rfl (Nat.le_of_ble_eq_true rfl) dX4_init_78 (fun H_1478 locs_1479 ho_1480 hC_1481 hLB_1482 => ?_)
  have ho_1480 : HA D H_1478 q0 (eO 4 [.ref q_1287, .ref q_1302, .ref q_1319, .int (0), .ref q_1338, .int (0), .ref q_1359, .ref q_1382, .ref q_1407, .ref q_1434, .ref q_1463, .null, .int (0)]) := ho_1480
  have hw_1483 := hw_1468.chg hC_1481 (by omega)
  have hw_1484 := hw_1469.chg hC_1481 (by omega)
  have hw_1485 := hw_1470.chg hC_1481 (by omega)
  have hw_1486 := hw_1471.chg hC_1481 (by omega)
  have hw_1487 := hw_1472.chg hC_1481 (by omega)
  have hw_1488 := hw_1473.chg hC_1481 (by omega)
  have hw_1489 := hw_1474.chg hC_1481 (by omega)
  have hw_1490 := hw_1475.chg hC_1481 (by omega)
  have hw_1491 := hw_1465.chg hC_1481 (by omega)
  have hF_1492 := hF_1476.chg hC_1481 (Or.inl rfl)
  have hz_1493 := hC_1481.1
  refine lv_aload_n hx hb dX4_init_81 rfl (lv_at hl 0 rfl) ?_
  refine lv_bipush (v := nI 64) hx hb dX4_init_82 (by decide +kernel) ?_
  refine k_newa (atype := .int) hx hb (hts (.arrayClass .int) (by decide +kernel)) hK 1 (ty := .int) rfl rfl rfl (64, .inl (fun _ => 0)) (fun _ => rfl) (by decide +kernel) (by decide +kernel) (Nat.le_of_ble_eq_true rfl) (Nat.le_of_ble_eq_true rfl) (Nat.le_of_ble_eq_true rfl) dX4_init_84 (fun q_1494 H_1495 hw_1496 hA_1497 => ?_)
  refine W.widen (k := 10) (n := 1644328) (Nat.le_of_ble_eq_true rfl) (Nat.le_of_ble_eq_true rfl) ?_
  have hqe_q_1494 := hA_1497.1
  have ho_1498 := ho_1480.add hA_1497
  have hw_1499 := hw_1483.add hA_1497
  have hw_1500 := hw_1484.add hA_1497
  have hw_1501 := hw_1485.add hA_1497
  have hw_1502 := hw_1486.add hA_1497
  have hw_1503 := hw_1487.add hA_1497
  have hw_1504 := hw_1488.add hA_1497
  have hw_1505 := hw_1489.add hA_1497
  have hw_1506 := hw_1490.add hA_1497
  have hw_1507 := hw_1491.add hA_1497
  have hF_1508 := hF_1492.add hA_1497
  have hz_1509 := hA_1497.2.1
  refine k_putF (ci := 4) (T := TX4) (N := 13) (v := .ref q_1494) hx hb hts (by decide +kernel) tyX4 tyX4_ok nmX4 hown (hin) hK ho_1498 hLB_1482 hb0 rfl 11 (by decide) rfl (hts (.fieldLink RX4 40 RX4 "greatest" "[I") (by decide +kernel)) rfl (ty := .array .int) (by decide +kernel) rfl rfl (Nat.le_of_ble_eq_true rfl) dX4_init_86 (fun H_1510 locs_1511 ho_1512 hC_1513 hLB_1514 => ?_)
  have ho_1512 : HA D H_1510 q0 (eO 4 [.ref q_1287, .ref q_1302, .ref q_1319, .int (0), .ref q_1338, .int (0), .ref q_1359, .ref q_1382, .ref q_1407, .ref q_1434, .ref q_1463, .ref q_1494, .int (0)]) := ho_1512
  have hw_1515 := hw_1499.chg hC_1513 (by omega)
  have hw_1516 := hw_1500.chg hC_1513 (by omega)
  have hw_1517 := hw_1501.chg hC_1513 (by omega)
  have hw_1518 := hw_1502.chg hC_1513 (by omega)
  have hw_1519 := hw_1503.chg hC_1513 (by omega)
  have hw_1520 := hw_1504.chg hC_1513 (by omega)
  have hw_1521 := hw_1505.chg hC_1513 (by omega)
  have hw_1522 := hw_1506.chg hC_1513 (by omega)
  have hw_1523 := hw_1507.chg hC_1513 (by omega)
  have hw_1524 := hw_1496.chg hC_1513 (by omega)
  have hF_1525 := hF_1508.chg hC_1513 (Or.inl rfl)
  have hz_1526 := hC_1513.1
  refine lv_aload_n hx hb dX4_init_89 rfl (lv_at hl 0 rfl) ?_
  refine k_get (ci := 4) (C := RX4) (T := TX4) (N := 13) (v := .ref q_1302) hx hb hts (by decide +kernel) hown hK ho_1512 rfl 1 (by decide) rfl (hts (.fieldLink RX4 14 RX4 "firsts" "[I") (by decide +kernel)) rfl dX4_init_90 ?_
  refine lv_iconst (v := nI 0) hx hb dX4_init_93 (by decide +kernel) ?_
  refine lv_iconst (v := (-1)) hx hb dX4_init_94 (by decide +kernel) ?_
  refine k_iast hx hb hK hw_1516 hLB_1514 (by omega) (0) rfl (by omega) (by omega) dX4_init_95 (fun H_1527 locs_1528 hw_1529 hC_1530 hLB_1531 => ?_)
  have ho_1532 := ho_1512.chg hC_1530 (by omega)
  have hw_1533 := hw_1515.chg hC_1530 (by omega)
  have hw_1534 := hw_1517.chg hC_1530 (by omega)
  have hw_1535 := hw_1518.chg hC_1530 (by omega)
  have hw_1536 := hw_1519.chg hC_1530 (by omega)
  have hw_1537 := hw_1520.chg hC_1530 (by omega)
  have hw_1538 := hw_1521.chg hC_1530 (by omega)
  have hw_1539 := hw_1522.chg hC_1530 (by omega)
  have hw_1540 := hw_1523.chg hC_1530 (by omega)
  have hw_1541 := hw_1524.chg hC_1530 (by omega)
  have hF_1542 := hF_1525.chg hC_1530 (Or.inr (by omega))
  have hz_1543 := hC_1530.1
  refine lv_aload_n hx hb dX4_init_96 rfl (lv_at hl 0 rfl) ?_
  refine k_get (ci := 4) (C := RX4) (T := TX4) (N := 13) (v := .ref q_1319) hx hb hts (by decide +kernel) hown hK ho_1532 rfl 2 (by decide) rfl (hts (.fieldLink RX4 18 RX4 "seconds" "[I") (by decide +kernel)) rfl dX4_init_97 ?_
  refine lv_iconst (v := nI 0) hx hb dX4_init_100 (by decide +kernel) ?_
  refine lv_iconst (v := (-1)) hx hb dX4_init_101 (by decide +kernel) ?_
  refine k_iast hx hb hK hw_1534 hLB_1531 (by omega) (0) rfl (by omega) (by omega) dX4_init_102 (fun H_1544 locs_1545 hw_1546 hC_1547 hLB_1548 => ?_)
  have ho_1549 := ho_1532.chg hC_1547 (by omega)
  have hw_1550 := hw_1533.chg hC_1547 (by omega)
  have hw_1551 := hw_1529.chg hC_1547 (by omega)
  have hw_1552 := hw_1535.chg hC_1547 (by omega)
  have hw_1553 := hw_1536.chg hC_1547 (by omega)
  have hw_1554 := hw_1537.chg hC_1547 (by omega)
  have hw_1555 := hw_1538.chg hC_1547 (by omega)
  have hw_1556 := hw_1539.chg hC_1547 (by omega)
  have hw_1557 := hw_1540.chg hC_1547 (by omega)
  have hw_1558 := hw_1541.chg hC_1547 (by omega)
  have hF_1559 := hF_1542.chg hC_1547 (Or.inr (by omega))
  have hz_1560 := hC_1547.1
  refine lv_aload_n hx hb dX4_init_103 rfl (lv_at hl 0 rfl) ?_
  refine lv_iconst (v := nI 1) hx hb dX4_init_104 (by decide +kernel) ?_
  refine k_put (ci := 4) (T := TX4) (N := 13) (v := .int (nI 1)) hx hb hts (by decide +kernel) tyX4 tyX4_ok nmX4 hown hK ho_1549 hLB_1548 hb0 rfl 3 (by decide) rfl (hts (.fieldLink RX4 43 RX4 "versions" "I") (by decide +kernel)) rfl (ty := .int) (by decide +kernel) rfl rfl (Nat.le_of_ble_eq_true rfl) dX4_init_105 (fun H_1561 locs_1562 ho_1563 hC_1564 hLB_1565 => ?_)
  have ho_1563 : HA D H_1561 q0 (eO 4 [.ref q_1287, .ref q_1302, .ref q_1319, .int (nI 1), .ref q_1338, .int (0), .ref q_1359, .ref q_1382, .ref q_1407, .ref q_1434, .ref q_1463, .ref q_1494, .int (0)]) := ho_1563
  have hw_1566 := hw_1550.chg hC_1564 (by omega)
  have hw_1567 := hw_1551.chg hC_1564 (by omega)
  have hw_1568 := hw_1546.chg hC_1564 (by omega)
  have hw_1569 := hw_1552.chg hC_1564 (by omega)
  have hw_1570 := hw_1553.chg hC_1564 (by omega)
  have hw_1571 := hw_1554.chg hC_1564 (by omega)
  have hw_1572 := hw_1555.chg hC_1564 (by omega)
  have hw_1573 := hw_1556.chg hC_1564 (by omega)
  have hw_1574 := hw_1557.chg hC_1564 (by omega)
  have hw_1575 := hw_1558.chg hC_1564 (by omega)
  have hF_1576 := hF_1559.chg hC_1564 (Or.inl rfl)
  have hz_1577 := hC_1564.1
  refine lv_aload_n hx hb dX4_init_108 rfl (lv_at hl 0 rfl) ?_
  refine lv_iconst (v := nI 1) hx hb dX4_init_109 (by decide +kernel) ?_
  refine k_put (ci := 4) (T := TX4) (N := 13) (v := .int (nI 1)) hx hb hts (by decide +kernel) tyX4 tyX4_ok nmX4 hown hK ho_1563 hLB_1565 hb0 rfl 5 (by decide) rfl (hts (.fieldLink RX4 47 RX4 "branches" "I") (by decide +kernel)) rfl (ty := .int) (by decide +kernel) rfl rfl (Nat.le_of_ble_eq_true rfl) dX4_init_110 (fun H_1578 locs_1579 ho_1580 hC_1581 hLB_1582 => ?_)
  have ho_1580 : HA D H_1578 q0 (eO 4 [.ref q_1287, .ref q_1302, .ref q_1319, .int (nI 1), .ref q_1338, .int (nI 1), .ref q_1359, .ref q_1382, .ref q_1407, .ref q_1434, .ref q_1463, .ref q_1494, .int (0)]) := ho_1580
  have hw_1583 := hw_1566.chg hC_1581 (by omega)
  have hw_1584 := hw_1567.chg hC_1581 (by omega)
  have hw_1585 := hw_1568.chg hC_1581 (by omega)
  have hw_1586 := hw_1569.chg hC_1581 (by omega)
  have hw_1587 := hw_1570.chg hC_1581 (by omega)
  have hw_1588 := hw_1571.chg hC_1581 (by omega)
  have hw_1589 := hw_1572.chg hC_1581 (by omega)
  have hw_1590 := hw_1573.chg hC_1581 (by omega)
  have hw_1591 := hw_1574.chg hC_1581 (by omega)
  have hw_1592 := hw_1575.chg hC_1581 (by omega)
  have hF_1593 := hF_1576.chg hC_1581 (Or.inl rfl)
  have hz_1594 := hC_1581.1
  have hMC : MC D g b0 (M11 q0 q_1287 q_1302 q_1319 q_1338 q_1359 q_1382 q_1407 q_1434 q_1463 q_1494) 1 1 0 x0 H_1578 := MC.first (by omega) (by omega) (by omega) (by omega) (by omega) (by omega) (by omega) (by omega) (by omega) (by omega) hb0 ho_1580 hw_1583 hw_1584 hw_1585 hw_1586 hw_1587 hw_1588 hw_1589 hw_1590 hw_1591 hw_1592
  refine r_vU hx hb hr hLB_1582 (Nat.le_refl _) (Nat.le_refl _) ⟨_, hMC, rfl, fun i h1 h2 => ?_, hF_1593.to (fun _ h => h)⟩ dX4_init_113 hlocks
  rcases (show i = 1 ∨ i = 2 ∨ i = 3 ∨ i = 4 ∨ i = 5 ∨ i = 6 ∨ i = 7 ∨ i = 8 ∨ i = 9 ∨ i = 10 by omega) with rfl | rfl | rfl | rfl | rfl | rfl | rfl | rfl | rfl | rfl <;> simp only [M11] <;> omega
