/-! 13: the calls that change a state: what each does (the walks are laid by wip/gen/cls13.py) -/
def BrN (σ : SG) (i : Int32) : Prop := ∀ b, b < sB σ → ¬ i = nI b
def VeN (σ : SG) (i : Int32) : Prop := ∀ b, b < sV σ → ¬ i = nI b
def PaN (σ : SG) (i : Int32) : Prop := VeN σ i ∧ ∀ k, k < sV σ → ¬ i = (-1) - nI k
def Zer (m : Nat → Int64) : Prop := ∀ j, j < 64 → m j = 0
def SpBranch (σ : SG) (i r : Int32) (σ' : SG) : Prop :=
  (BrN σ i ∧ ¬ i = -1 ∧ r = -1 ∧ σ' = σ) ∨
  (sB σ = 40 ∧ (i = -1 ∨ ∃ b, b < sB σ ∧ i = nI b) ∧ r = -4 ∧ σ' = σ) ∨
  (∃ b, b < sB σ ∧ i = nI b ∧ sB σ < 40 ∧ r = nI (sB σ) ∧ σ' = gBr σ (sH σ b)) ∨
  (i = -1 ∧ sB σ < 40 ∧ sV σ = 400 ∧ r = -4 ∧ σ' = σ) ∨
  (i = -1 ∧ sB σ < 40 ∧ sV σ < 400 ∧ r = nI (sB σ) ∧ ∃ w an, σ' = gBr (gGrow σ none none w an) (sV σ) ∧ Zer w ∧ AnOK σ (sV σ) none none an)
def SpPut (σ : SG) (bi ti : Int32) (ad : Bool) (r : Int32) (σ' : SG) : Prop :=
  (BrN σ bi ∧ r = -1 ∧ σ' = σ) ∨ ∃ b, b < sB σ ∧ bi = nI b ∧
  ((isTb ti = false ∧ r = -2 ∧ σ' = σ) ∨ ∃ t, t < 4096 ∧ ti = nI t ∧
  ((bt (sW σ (sH σ b)) t = ad ∧ r = -3 ∧ σ' = σ) ∨ (¬ bt (sW σ (sH σ b)) t = ad ∧
  ((sV σ = 400 ∧ r = -4 ∧ σ' = σ) ∨ (sV σ < 400 ∧ r = nI (sV σ) ∧ ∃ w an, σ' = gStep σ b none w an ∧ AnOK σ (sV σ) (some (sH σ b)) none an ∧ ∀ u, u < 4096 → bt w u = if u = t then ad else bt (sW σ (sH σ b)) u)))))
def Ment (f : Nat → Int64) (q : Nat) : Prop := ∃ t, t < 4096 ∧ bt f t = true ∧ pointIn t q
def SpBlank (σ : SG) (bi pi oi r : Int32) (σ' : SG) : Prop :=
  (BrN σ bi ∧ r = -1 ∧ σ' = σ) ∨ ∃ b, b < sB σ ∧ bi = nI b ∧
  (((isBb pi = false ∨ isBb oi = false) ∧ r = -2 ∧ σ' = σ) ∨ ∃ q o, q < 8 ∧ o < 8 ∧ pi = nI q ∧ oi = nI o ∧
  (((q = o ∨ ¬ Ment (sW σ (sH σ b)) q ∨ Ment (sW σ (sH σ b)) o) ∧ r = -3 ∧ σ' = σ) ∨ (¬ q = o ∧ Ment (sW σ (sH σ b)) q ∧ ¬ Ment (sW σ (sH σ b)) o ∧
  ((sV σ = 400 ∧ r = -4 ∧ σ' = σ) ∨ (sV σ < 400 ∧ r = nI (sV σ) ∧ ∃ w an, σ' = gStep σ b none w an ∧ AnOK σ (sV σ) (some (sH σ b)) none an ∧ ∀ u, u < 4096 → (bt w u = true ↔ ∃ t, t < 4096 ∧ bt (sW σ (sH σ b)) t = true ∧ rnT t q o = u))))))
def GCW (σ : SG) (u v : Nat) (f : Nat → Int64) : Prop := (GC0 σ u v ∧ f = fun _ => 0) ∨ ∃ c, GC1 σ u v c ∧ f = sW σ c
def mrg (x y z : Int64) : Int64 := ((x ||| y) &&& (z ^^^ (-1))) ||| (x &&& y)
def SpJoin (σ : SG) (a w : Nat) (r : Int32) (σ' : SG) : Prop :=
  (sV σ = 400 ∧ r = -4 ∧ σ' = σ) ∨ (sV σ < 400 ∧ ∃ (fb m : Nat → Int64), GCW σ (sH σ a) w fb ∧ (∀ j, j < 64 → m j = mrg (sW σ (sH σ a) j) (sW σ w j) (fb j)) ∧ r = nI (cnt (crowd (bt m)) 256) ∧
  ((¬ cnt (crowd (bt m)) 256 = 0 ∧ σ' = gM σ m) ∨ (cnt (crowd (bt m)) 256 = 0 ∧ ∃ w1 an, σ' = gStep (gM σ m) a (some w) w1 an ∧ AnOK σ (sV σ) (some (sH σ a)) (some w) an ∧ ∀ j, j < 64 → w1 j = m j)))
def SpMerge (σ : SG) (ai bi r : Int32) (σ' : SG) : Prop :=
  ((BrN σ ai ∨ BrN σ bi) ∧ r = -1 ∧ σ' = σ) ∨ ∃ a b, a < sB σ ∧ b < sB σ ∧ ai = nI a ∧ bi = nI b ∧
  ((sA σ (sH σ a) (sH σ b) = true ∧ r = 0 ∧ ∃ m, Zer m ∧ σ' = gM σ m) ∨
   (sA σ (sH σ a) (sH σ b) = false ∧ sA σ (sH σ b) (sH σ a) = true ∧ r = 0 ∧ ∃ m, Zer m ∧ σ' = gHead (gM σ m) a (sH σ b)) ∨
   (sA σ (sH σ a) (sH σ b) = false ∧ sA σ (sH σ b) (sH σ a) = false ∧ SpJoin σ a (sH σ b) r σ'))
def lRem (x y : Int64) : Int64 := x &&& (y ^^^ (-1))
def lLay (h x y : Int64) : Int64 := (h &&& ((x &&& (y ^^^ (-1))) ^^^ (-1))) ||| (y &&& (x ^^^ (-1)))
def SpLay (σ : SG) (b : Nat) (ff ft : Nat → Int64) (r : Int32) (σ' : SG) : Prop :=
  (¬ (∀ j, j < 64 → (lRem (ff j) (ft j)) &&& ((sW σ (sH σ b) j) ^^^ (-1)) = 0) ∧ r = 0 ∧ σ' = σ) ∨
  ((∀ j, j < 64 → (lRem (ff j) (ft j)) &&& ((sW σ (sH σ b) j) ^^^ (-1)) = 0) ∧
  ((sV σ = 400 ∧ r = -4 ∧ σ' = σ) ∨ (sV σ < 400 ∧ (∀ j, j < 64 → lLay (sW σ (sH σ b) j) (ff j) (ft j) = sW σ (sH σ b) j) ∧ r = 0 ∧ σ' = σ) ∨
  (sV σ < 400 ∧ ¬ (∀ j, j < 64 → lLay (sW σ (sH σ b) j) (ff j) (ft j) = sW σ (sH σ b) j) ∧ r = 1 ∧ ∃ w1 an, σ' = gStep σ b none w1 an ∧ AnOK σ (sV σ) (some (sH σ b)) none an ∧ ∀ j, j < 64 → w1 j = lLay (sW σ (sH σ b) j) (ff j) (ft j))))
def SpApply (σ : SG) (bi pi r : Int32) (σ' : SG) : Prop :=
  ((BrN σ bi ∨ PaN σ pi) ∧ r = -1 ∧ σ' = σ) ∨ ∃ b n, b < sB σ ∧ n < sV σ ∧ bi = nI b ∧
  ((pi = nI n ∧ SpLay σ b (befW σ n) (sW σ n) r σ') ∨ (pi = (-1) - nI n ∧ SpLay σ b (sW σ n) (befW σ n) r σ'))
def SpRevert (σ : SG) (bi ni r : Int32) (σ' : SG) : Prop :=
  ((BrN σ bi ∨ VeN σ ni) ∧ r = -1 ∧ σ' = σ) ∨ ∃ b n, b < sB σ ∧ n < sV σ ∧ bi = nI b ∧ ni = nI n ∧
  (((sA σ (sH σ b) n = false ∨ ¬ sS σ n = none) ∧ r = -3 ∧ σ' = σ) ∨ (sA σ (sH σ b) n = true ∧ sS σ n = none ∧ SpLay σ b (sW σ n) (befW σ n) r σ'))
/-- behind a call of the class: a state again, what it did -/
def PubQ (D : va_G) (g : Nat → ClassId) (b0 : Nat) (H : Heap) (A : Nat → Nat) (σ : SG) (Sp : Int32 → SG → Prop) : Int32 → Heap → Prop := fun r H1 => ∃ (A1 : Nat → Nat) (σ1 : SG) (dw1 : Nat → Int64), CR D g b0 A1 σ1 dw1 H1 ∧ CFr H A σ H1 A1 σ1 ∧ Sp r σ1
theorem Zer_bt {m : Nat → Int64} (h : Zer m) {u : Nat} (hu : u < 4096) : bt m u = false := by
  unfold bt
  rw [h _ (by omega), w_0]
theorem bt_eq {f g : Nat → Int64} (h : ∀ j, j < 64 → f j = g j) {u : Nat} (hu : u < 4096) : bt f u = bt g u := by
  unfold bt
  rw [h _ (by omega)]
theorem br_dec (σ : SG) (i : Int32) : BrN σ i ∨ ∃ b, b < sB σ ∧ i = nI b := by
  by_cases h : ∃ b, b < sB σ ∧ i = nI b
  · exact Or.inr h
  · exact Or.inl (fun b hb e => h ⟨b, hb, e⟩)
theorem ve_dec (σ : SG) (i : Int32) : VeN σ i ∨ ∃ b, b < sV σ ∧ i = nI b := by
  by_cases h : ∃ b, b < sV σ ∧ i = nI b
  · exact Or.inr h
  · exact Or.inl (fun b hb e => h ⟨b, hb, e⟩)
theorem pa_dec (σ : SG) (i : Int32) : PaN σ i ∨ ∃ b, b < sV σ ∧ (i = nI b ∨ i = (-1) - nI b) := by
  by_cases h : ∃ b, b < sV σ ∧ (i = nI b ∨ i = (-1) - nI b)
  · exact Or.inr h
  · exact Or.inl ⟨fun b hb e => h ⟨b, hb, Or.inl e⟩, fun b hb e => h ⟨b, hb, Or.inr e⟩⟩
theorem gc_dec (σ : SG) (u v : Nat) : GC0 σ u v ∨ ∃ c, GC1 σ u v c := by
  by_cases h : GC0 σ u v
  · exact Or.inl h
  · right
    have : ∀ n, (∀ z, n ≤ z → z < 400 → ¬ (sA σ u z = true ∧ sA σ v z = true)) ∨ ∃ c, n ≤ c ∧ GC1 σ u v c := by
      intro n
      by_cases hn : 400 ≤ n
      · exact Or.inl (fun z h1 h2 => by omega)
      · obtain ⟨k, hk⟩ : ∃ k, n + k = 400 := ⟨400 - n, by omega⟩
        clear hn
        induction k generalizing n with
        | zero => exact Or.inl (fun z h1 h2 => by omega)
        | succ k ih =>
          rcases ih (n + 1) (by omega) with q | ⟨c, q1, q2⟩
          · by_cases hb : sA σ u n = true ∧ sA σ v n = true
            · exact Or.inr ⟨n, Nat.le_refl _, by omega, hb.1, hb.2, fun z h1 h2 => q z h1 h2⟩
            · refine Or.inl (fun z h1 h2 => ?_)
              rcases Nat.lt_or_ge n z with y | y
              · exact q z y h2
              · rw [show z = n by omega]; exact hb
          · exact Or.inr ⟨c, by omega, q2⟩
    rcases this 0 with q | ⟨c, -, q⟩
    · exact absurd (fun z hz => q z (Nat.zero_le _) hz) h
    · exact ⟨c, q⟩
set_option maxHeartbeats 4000000 in
set_option maxRecDepth 100000 in
/-- lay -/
theorem c_X3_lay (l : Launch) (D : va_G) (g : Nat → ClassId) (b0 : Nat) (H : Heap) (A : Nat → Nat) (σ : SG) (dw : Nat → Int64) (hC : CR D g b0 A σ dw H) (hbH : b0 ≤ H.size) (b : Nat) (hb4 : b < sB σ) (cf ct : Nat) (ff ft : Nat → Int64) (hf1 : cLive σ cf) (hf2 : cLive σ (cf + 1)) (hf3 : ¬ cf = 8) (hf4 : ¬ cf + 1 = 8) (hff : HA D H (A cf) (eO 1 [.ref (A (cf + 1))])) (hfw : HA D H (A (cf + 1)) (eL (g 2) 64 ff)) (ht1 : cLive σ ct) (ht2 : cLive σ (ct + 1)) (ht3 : ¬ ct = 8) (ht4 : ¬ ct + 1 = 8) (htf : HA D H (A ct) (eO 1 [.ref (A (ct + 1))])) (htw : HA D H (A (ct + 1)) (eL (g 2) 64 ft)) : Met l yX3_lay wsX3_lay ({ frames := 5, cells := 4, slots := 470, locals := 133 } : Room) (kPc D g [.ref (A 0), .ref (A (2000 + b)), .ref (A cf), .ref (A ct)] H) (kI (PubQ D g b0 H A σ (SpLay σ b ff ft))) 4 470 (kF b0) := by
  refine Met.ofW (cc := cX3_lay) (maxL := 5) (ret := (some .int)) (by decide) rfl ?_
  intro p e s m args below meth c s₁ B hml hv
  obtain ⟨rfl, hH, hK⟩ := hv
  have hx := B.exec
  have hb := B.bytes
  have hr := B.returns
  have hts := atoms_spec (ws := wsX3_lay) B.pre
  have hown : s.vm.findClass RX3 = some m.cls := findClass_of_methodNamed B.named
  have hlocks := B.notSynchronized
  rw [hH]
  have hl := lv_entry ([.ref (A 0), .ref (A (2000 + b)), .ref (A cf), .ref (A ct)]) (n := 5) (Nat.le_of_ble_eq_true rfl)
  rw [lg_entry_eq]
  generalize (lg_sl ([.ref (A 0), .ref (A (2000 + b)), .ref (A cf), .ref (A ct)]) ++ List.replicate (5 - (lg_sl ([.ref (A 0), .ref (A (2000 + b)), .ref (A cf), .ref (A ct)])).length) Slot.unset).toArray = ls at hl ⊢
  have hl : lv_has ls 5 [(0, .ref (A 0)), (1, .ref (A (2000 + b))), (2, .ref (A cf)), (3, .ref (A ct))] := hl
  have hVB := hC.wf
  have hV4 : sV σ ≤ 400 := hVB.2.1
  have hB4 : sB σ ≤ 40 := hVB.2.2.2.1
  have hhd := hVB.2.2.2.2.1 b hb4
  obtain ⟨b1, hb1⟩ : ∃ b1 : Bool, b1 = true ↔ ∀ j, j < 64 → (lRem (ff j) (ft j)) &&& ((sW σ (sH σ b) j) ^^^ (-1)) = 0 := by
    by_cases z : ∀ j, j < 64 → (lRem (ff j) (ft j)) &&& ((sW σ (sH σ b) j) ^^^ (-1)) = 0
    · exact ⟨true, ⟨fun _ => z, fun _ => rfl⟩⟩
    · exact ⟨false, ⟨fun q => (by cases q), fun q => absurd q z⟩⟩
  refine lv_aload_n hx hb dX3_lay_0 rfl (lv_at hl 1 rfl) ?_
  refine k_getN (ci := 0) (C := RX0) (T := TX0) (N := 1) (v := .ref (A (16 + 4 * (sH σ b)))) hx hb hts (by decide +kernel) hown hK (hC.ba hb4) rfl 0 (by decide) rfl (List.mem_of_getElem? (i := 4) rfl) rfl dX3_lay_1 ?_
  refine k_getN (ci := 2) (C := RX2) (T := TX2) (N := 5) (v := .ref (A (17 + 4 * (sH σ b)))) hx hb hts (by decide +kernel) hown hK (hC.ver hhd) rfl 3 (by decide) rfl (List.mem_of_getElem? (i := 3) rfl) rfl dX3_lay_4 ?_
  refine lv_astore (lv' := [(4, .ref (A (17 + 4 * (sH σ b)))), (0, .ref (A 0)), (1, .ref (A (2000 + b))), (2, .ref (A cf)), (3, .ref (A ct))]) hx hb dX3_lay_7 hl (by decide) rfl (fun ls hl => ?_)
  refine lv_aload hx hb dX3_lay_9 (lv_at hl 0 rfl) ?_
  refine lv_aload_n hx hb dX3_lay_11 rfl (lv_at hl 3 rfl) ?_
  refine lv_aload_n hx hb dX3_lay_12 rfl (lv_at hl 4 rfl) ?_
  refine k_callX (va_runVN (As := [.ref (A cf), .ref (A ct)]) (rest := []) ⟨hx, hb, hml, hown, hts⟩ (c_X1_hasAllRemoved l D g H (A (17 + 4 * (sH σ b))) (A (18 + 4 * (sH σ b))) (sW σ (sH σ b)) (hC.ts hhd) (hC.tw hhd) (A cf) (A (cf + 1)) ff hff hfw (A ct) (A (ct + 1)) ft htf htw b1 hb1) ⟨va_cnB 2 hts gX3_lay_X1_hasAllRemoved_n172 rfl rfl rfl (hK.2.1 (RX3, 172, yX1_hasAllRemoved) (List.mem_of_getElem? (i := 19) rfl)) (hts (.initialized RX1) (by decide +kernel)) (by decide +kernel) ⟨Nat.le_of_ble_eq_true rfl, Nat.le_of_ble_eq_true rfl⟩, hts (.instanceMethod yX1_hasAllRemoved) (by decide +kernel), hts (.selects RX1 yX1_hasAllRemoved yX1_hasAllRemoved) (by decide +kernel)⟩ ⟨kPc_blind, k_recv hK (hC.ts hhd) rfl, fun U hU hW => kPc_at hK hU hW⟩ rfl rfl hl.1 rfl (lv_room (Nat.le_of_ble_eq_true rfl)) dX3_lay_13 ⟨Nat.le_of_ble_eq_true rfl, Nat.le_of_ble_eq_true rfl⟩) ?_
  refine z_if_ne (tgt := 21) hx hb dX3_lay_16 (by decide) (fun c_748 => ?_) (fun c_748 => ?_)
  · skip
    refine lv_aload_n hx hb dX3_lay_21 rfl (lv_at hl 1 rfl) ?_
    refine k_callX (va_runV (As := []) (rest := []) ⟨hx, hb, hml, hown, hts⟩ (c_X3_isFull l D g b0 H A σ dw hC) (cwV 0 hts gX3_lay_X3_isFull rfl rfl rfl (by decide +kernel) ⟨Nat.le_of_ble_eq_true rfl, Nat.le_of_ble_eq_true rfl⟩) ⟨kPc_blind, k_recv hK hC.o rfl, fun U hU hW => kPc_at hK hU hW⟩ rfl rfl hl.1 rfl (lv_room (Nat.le_of_ble_eq_true rfl)) dX3_lay_22 ⟨Nat.le_of_ble_eq_true rfl, Nat.le_of_ble_eq_true rfl⟩) ?_
    refine z_if_eq (tgt := 31) hx hb dX3_lay_25 (by decide) (fun c_749 => ?_) (fun c_749 => ?_)
    · skip
      refine lv_aload_n hx hb dX3_lay_31 rfl (lv_at hl 1 rfl) ?_
      refine k_get (ci := 3) (C := RX3) (T := TX3) (N := 7) (v := .ref (A 7)) hx hb hts (by decide +kernel) hown hK hC.o rfl 6 (by decide) rfl (hts (.fieldLink RX3 31 RX3 "draft" "LVersionMerge$TripleSet;") (by decide +kernel)) rfl dX3_lay_32 ?_
      refine lv_aload hx hb dX3_lay_35 (lv_at hl 0 rfl) ?_
      refine lv_aload_n hx hb dX3_lay_37 rfl (lv_at hl 3 rfl) ?_
      refine lv_aload_n hx hb dX3_lay_38 rfl (lv_at hl 4 rfl) ?_
      have hV : sV σ < 400 := by have := of_decide_eq_false c_749; omega
      refine k_callU (va_runVN (As := [.ref (A (17 + 4 * (sH σ b))), .ref (A cf), .ref (A ct)]) (rest := []) ⟨hx, hb, hml, hown, hts⟩ (c_X1_becomeLaid l D g b0 H (A 7) (A 8) dw hC.dr hC.drw (hC.ge (cl0 (by omega))) (hC.ne (cl0 (by omega)) (cl0 (by omega)) (by omega)) (A (17 + 4 * (sH σ b))) (A (18 + 4 * (sH σ b))) (sW σ (sH σ b)) (hC.ts hhd) (hC.tw hhd) (hC.ne (clV (sH σ b) hhd (by omega) (by omega)) (cl0 (by omega)) (by omega)) (hC.ne (clV (sH σ b) hhd (by omega) (by omega)) (cl0 (by omega)) (by omega)) (A cf) (A (cf + 1)) ff hff hfw (hC.ne hf1 (cl0 (by omega)) hf3) (hC.ne hf2 (cl0 (by omega)) hf4) (A ct) (A (ct + 1)) ft htf htw (hC.ne ht1 (cl0 (by omega)) ht3) (hC.ne ht2 (cl0 (by omega)) ht4)) ⟨va_cnB 3 hts gX3_lay_X1_becomeLaid_n176 rfl rfl rfl (hK.2.1 (RX3, 176, yX1_becomeLaid) (List.mem_of_getElem? (i := 20) rfl)) (hts (.initialized RX1) (by decide +kernel)) (by decide +kernel) ⟨Nat.le_of_ble_eq_true rfl, Nat.le_of_ble_eq_true rfl⟩, hts (.instanceMethod yX1_becomeLaid) (by decide +kernel), hts (.selects RX1 yX1_becomeLaid yX1_becomeLaid) (by decide +kernel)⟩ ⟨kPc_blind, k_recv hK hC.dr rfl, fun U hU hW => kPc_at hK hU hW⟩ rfl rfl hl.1 rfl (lv_room (Nat.le_of_ble_eq_true rfl)) dX3_lay_39 ⟨Nat.le_of_ble_eq_true rfl, Nat.le_of_ble_eq_true rfl⟩) LB.nil (fun H1 locs1 hLB1 hq1 => ?_)
      obtain ⟨f1, hw1, hCh, hf1v⟩ := hq1
      have hC1 := hC.draft hw1 hCh
      have hbH1 : b0 ≤ H1.size := Nat.le_trans hbH hCh.1
      have hF1 : CFr H A σ H1 A σ := CFr.chg (cl0 (by omega)) hCh (fun c hc => hc)
      refine lv_aload_n hx hb dX3_lay_42 rfl (lv_at hl 1 rfl) ?_
      refine k_get (ci := 3) (C := RX3) (T := TX3) (N := 7) (v := .ref (A 7)) hx hb hts (by decide +kernel) hown hK hC1.o rfl 6 (by decide) rfl (hts (.fieldLink RX3 31 RX3 "draft" "LVersionMerge$TripleSet;") (by decide +kernel)) rfl dX3_lay_43 ?_
      refine lv_aload hx hb dX3_lay_46 (lv_at hl 0 rfl) ?_
      obtain ⟨b2, hb2⟩ : ∃ b2 : Bool, b2 = true ↔ ∀ j, j < 64 → f1 j = sW σ (sH σ b) j := by
        by_cases z : ∀ j, j < 64 → f1 j = sW σ (sH σ b) j
        · exact ⟨true, ⟨fun _ => z, fun _ => rfl⟩⟩
        · exact ⟨false, ⟨fun q => (by cases q), fun q => absurd q z⟩⟩
      refine k_callX (va_runVN (As := [.ref (A (17 + 4 * (sH σ b)))]) (rest := []) ⟨hx, hb, hml, hown, hts⟩ (c_X1_isSameAs l D g H1 (A 7) (A 8) f1 hC1.dr hC1.drw (A (17 + 4 * (sH σ b))) (A (18 + 4 * (sH σ b))) (sW σ (sH σ b)) (hC1.ts hhd) (hC1.tw hhd) b2 hb2) ⟨va_cnB 1 hts gX3_lay_X1_isSameAs_n179 rfl rfl rfl (hK.2.1 (RX3, 179, yX1_isSameAs) (List.mem_of_getElem? (i := 21) rfl)) (hts (.initialized RX1) (by decide +kernel)) (by decide +kernel) ⟨Nat.le_of_ble_eq_true rfl, Nat.le_of_ble_eq_true rfl⟩, hts (.instanceMethod yX1_isSameAs) (by decide +kernel), hts (.selects RX1 yX1_isSameAs yX1_isSameAs) (by decide +kernel)⟩ ⟨kPc_blind, k_recv hK hC1.dr rfl, fun U hU hW => kPc_at hK hU hW⟩ rfl rfl hl.1 rfl (lv_room (Nat.le_of_ble_eq_true rfl)) dX3_lay_48 ⟨Nat.le_of_ble_eq_true rfl, Nat.le_of_ble_eq_true rfl⟩) ?_
      refine z_if_eq (tgt := 56) hx hb dX3_lay_51 (by decide) (fun c_750 => ?_) (fun c_750 => ?_)
      · skip
        refine lv_aload_n hx hb dX3_lay_56 rfl (lv_at hl 1 rfl) ?_
        refine lv_aload_n hx hb dX3_lay_57 rfl (lv_at hl 2 rfl) ?_
        refine lv_null hx hb dX3_lay_58 ?_
        refine lv_aload_n hx hb dX3_lay_59 rfl (lv_at hl 1 rfl) ?_
        refine k_get (ci := 3) (C := RX3) (T := TX3) (N := 7) (v := .ref (A 7)) hx hb hts (by decide +kernel) hown hK hC1.o rfl 6 (by decide) rfl (hts (.fieldLink RX3 31 RX3 "draft" "LVersionMerge$TripleSet;") (by decide +kernel)) rfl dX3_lay_60 ?_
        refine k_callI (va_runV (As := [.ref (A (2000 + b)), .null, .ref (A 7)]) (rest := []) ⟨hx, hb, hml, hown, hts⟩ (c_X3_advance_0 l D g b0 H1 A σ f1 hC1 7 f1 (cl0 (by omega)) (cl0 (by omega)) hC1.dr hC1.drw hbH1 hV b hb4) (cwV 3 hts gX3_lay_X3_advance rfl rfl rfl (by decide +kernel) ⟨Nat.le_of_ble_eq_true rfl, Nat.le_of_ble_eq_true rfl⟩) ⟨kPc_blind, k_recv hK hC1.o rfl, fun U hU hW => kPc_at hK hU hW⟩ rfl rfl hl.1 rfl (lv_room (Nat.le_of_ble_eq_true rfl)) dX3_lay_63 ⟨Nat.le_of_ble_eq_true rfl, Nat.le_of_ble_eq_true rfl⟩) hLB1 (fun ra H2 locs2 hLB2 hq2 => ?_)
        refine W.widen (k := 4) (n := 470) (Nat.le_of_ble_eq_true rfl) (Nat.le_of_ble_eq_true rfl) ?_
        obtain ⟨hra, A2, w2, an2, hC2, hF2, hw2, han2⟩ := hq2
        refine lv_pop hx hb dX3_lay_66 rfl ?_
        refine lv_iconst (v := nI 1) hx hb dX3_lay_67 (by decide +kernel) ?_
        exact r_iI hx hb hr hLB2 (Nat.le_refl _) (Nat.le_refl _) ⟨A2, _, f1, hC2, hF1.tr hF2, Or.inr ⟨(hb1.mp c_748), Or.inr (Or.inr ⟨hV, fun q => (by rw [hb2.mpr (fun j hj => (hf1v j hj).trans (q j hj))] at c_750; cases c_750), by decide +kernel, w2, an2, rfl, han2, fun j hj => (hw2 j hj).trans (hf1v j hj)⟩)⟩⟩ dX3_lay_68 hlocks
      · skip
        refine lv_iconst (v := nI 0) hx hb dX3_lay_54 (by decide +kernel) ?_
        exact r_iI hx hb hr hLB1 (Nat.zero_le _) (Nat.zero_le _) ⟨A, σ, f1, hC1, hF1, Or.inr ⟨(hb1.mp c_748), Or.inr (Or.inl ⟨hV, fun j hj => (hf1v j hj).symm.trans (hb2.mp c_750 j hj), by decide +kernel, rfl⟩)⟩⟩ dX3_lay_55 hlocks
    · skip
      refine lv_bipush (v := (-4)) hx hb dX3_lay_28 (by decide +kernel) ?_
      have hVf : sV σ = 400 := by have := of_decide_eq_true c_749; omega
      exact r_iI hx hb hr LB.nil (Nat.zero_le _) (Nat.zero_le _) ⟨A, σ, dw, hC, CFr.rf, Or.inr ⟨(hb1.mp c_748), Or.inl ⟨hVf, rfl, rfl⟩⟩⟩ dX3_lay_30 hlocks
  · skip
    refine lv_iconst (v := nI 0) hx hb dX3_lay_19 (by decide +kernel) ?_
    exact r_iI hx hb hr LB.nil (Nat.zero_le _) (Nat.zero_le _) ⟨A, σ, dw, hC, CFr.rf, Or.inl ⟨fun q => (by rw [hb1.mpr q] at c_748; cases c_748), by decide +kernel, rfl⟩⟩ dX3_lay_20 hlocks
set_option maxHeartbeats 4000000 in
set_option maxRecDepth 100000 in
/-- join -/
theorem c_X3_join_0 (l : Launch) (D : va_G) (g : Nat → ClassId) (b0 : Nat) (H : Heap) (A : Nat → Nat) (σ : SG) (dw : Nat → Int64) (hC : CR D g b0 A σ dw H) (hbH : b0 ≤ H.size) (a : Nat) (ha4 : a < sB σ) (v : Nat) (hv : v < sV σ) (hgc : GC0 σ (sH σ a) v) : Met l yX3_join wsX3_join ({ frames := 5, cells := 4, slots := 470, locals := 133 } : Room) (kPc D g [.ref (A 0), .ref (A (2000 + a)), .ref (A (16 + 4 * v))] H) (kI (PubQ D g b0 H A σ (SpJoin σ a v))) 4 470 (kF b0) := by
  refine Met.ofW (cc := cX3_join) (maxL := 6) (ret := (some .int)) (by decide) rfl ?_
  intro p e s m args below meth c s₁ B hml hv
  obtain ⟨rfl, hH, hK⟩ := hv
  have hx := B.exec
  have hb := B.bytes
  have hr := B.returns
  have hts := atoms_spec (ws := wsX3_join) B.pre
  have hown : s.vm.findClass RX3 = some m.cls := findClass_of_methodNamed B.named
  have hlocks := B.notSynchronized
  rw [hH]
  have hl := lv_entry ([.ref (A 0), .ref (A (2000 + a)), .ref (A (16 + 4 * v))]) (n := 6) (Nat.le_of_ble_eq_true rfl)
  rw [lg_entry_eq]
  generalize (lg_sl ([.ref (A 0), .ref (A (2000 + a)), .ref (A (16 + 4 * v))]) ++ List.replicate (6 - (lg_sl ([.ref (A 0), .ref (A (2000 + a)), .ref (A (16 + 4 * v))])).length) Slot.unset).toArray = ls at hl ⊢
  have hl : lv_has ls 6 [(0, .ref (A 0)), (1, .ref (A (2000 + a))), (2, .ref (A (16 + 4 * v)))] := hl
  have hVB := hC.wf
  have hV4 : sV σ ≤ 400 := hVB.2.1
  have hB4 : sB σ ≤ 40 := hVB.2.2.2.1
  have hhd := hVB.2.2.2.2.1 a ha4
  refine lv_aload_n hx hb dX3_join_0 rfl (lv_at hl 0 rfl) ?_
  refine k_callX (va_runV (As := []) (rest := []) ⟨hx, hb, hml, hown, hts⟩ (c_X3_isFull l D g b0 H A σ dw hC) (cwV 0 hts gX3_join_X3_isFull rfl rfl rfl (by decide +kernel) ⟨Nat.le_of_ble_eq_true rfl, Nat.le_of_ble_eq_true rfl⟩) ⟨kPc_blind, k_recv hK hC.o rfl, fun U hU hW => kPc_at hK hU hW⟩ rfl rfl hl.1 rfl (lv_room (Nat.le_of_ble_eq_true rfl)) dX3_join_1 ⟨Nat.le_of_ble_eq_true rfl, Nat.le_of_ble_eq_true rfl⟩) ?_
  refine z_if_eq (tgt := 10) hx hb dX3_join_4 (by decide) (fun c_751 => ?_) (fun c_751 => ?_)
  · skip
    refine lv_aload_n hx hb dX3_join_10 rfl (lv_at hl 0 rfl) ?_
    refine lv_aload_n hx hb dX3_join_11 rfl (lv_at hl 1 rfl) ?_
    refine k_getN (ci := 0) (C := RX0) (T := TX0) (N := 1) (v := .ref (A (16 + 4 * (sH σ a)))) hx hb hts (by decide +kernel) hown hK (hC.ba ha4) rfl 0 (by decide) rfl (List.mem_of_getElem? (i := 4) rfl) rfl dX3_join_12 ?_
    refine lv_aload_n hx hb dX3_join_15 rfl (lv_at hl 2 rfl) ?_
    have hV : sV σ < 400 := by have := of_decide_eq_false c_751; omega
    refine k_callX (va_runV (As := [.ref (A (16 + 4 * (sH σ a))), .ref (A (16 + 4 * v))]) (rest := []) ⟨hx, hb, hml, hown, hts⟩ (c_X3_greatestCommon_0 l D g b0 H A σ dw hC (sH σ a) v hhd hv hgc) (cwV 2 hts gX3_join_X3_greatestCommon rfl rfl rfl (by decide +kernel) ⟨Nat.le_of_ble_eq_true rfl, Nat.le_of_ble_eq_true rfl⟩) ⟨kPc_blind, k_recv hK hC.o rfl, fun U hU hW => kPc_at hK hU hW⟩ rfl rfl hl.1 rfl (lv_room (Nat.le_of_ble_eq_true rfl)) dX3_join_16 ⟨Nat.le_of_ble_eq_true rfl, Nat.le_of_ble_eq_true rfl⟩) ?_
    refine lv_astore_nN (lv' := [(3, .null), (0, .ref (A 0)), (1, .ref (A (2000 + a))), (2, .ref (A (16 + 4 * v)))]) hx hb dX3_join_19 rfl hl (by decide) rfl (fun ls hl => ?_)
    refine lv_aload_nN hx hb dX3_join_20 rfl (lv_at hl 0 rfl) ?_
    refine lv_ifnonnullN hx hb dX3_join_21 ?_
    refine lv_aload_n hx hb dX3_join_24 rfl (lv_at hl 1 rfl) ?_
    refine k_get (ci := 3) (C := RX3) (T := TX3) (N := 7) (v := .ref (A 3)) hx hb hts (by decide +kernel) hown hK hC.o rfl 4 (by decide) rfl (hts (.fieldLink RX3 24 RX3 "nothing" "LVersionMerge$TripleSet;") (by decide +kernel)) rfl dX3_join_25 ?_
    refine lv_goto (tgt := 35) hx hb dX3_join_28 (by decide) ?_
    refine lv_astore (lv' := [(4, .ref (A 3)), (3, .null), (0, .ref (A 0)), (1, .ref (A (2000 + a))), (2, .ref (A (16 + 4 * v)))]) hx hb dX3_join_35 hl (by decide) rfl (fun ls hl => ?_)
    refine lv_aload_n hx hb dX3_join_37 rfl (lv_at hl 2 rfl) ?_
    refine k_get (ci := 3) (C := RX3) (T := TX3) (N := 7) (v := .ref (A 5)) hx hb hts (by decide +kernel) hown hK hC.o rfl 5 (by decide) rfl (hts (.fieldLink RX3 28 RX3 "merged" "LVersionMerge$TripleSet;") (by decide +kernel)) rfl dX3_join_38 ?_
    refine lv_aload_n hx hb dX3_join_41 rfl (lv_at hl 3 rfl) ?_
    refine k_getN (ci := 0) (C := RX0) (T := TX0) (N := 1) (v := .ref (A (16 + 4 * (sH σ a)))) hx hb hts (by decide +kernel) hown hK (hC.ba ha4) rfl 0 (by decide) rfl (List.mem_of_getElem? (i := 4) rfl) rfl dX3_join_42 ?_
    refine k_getN (ci := 2) (C := RX2) (T := TX2) (N := 5) (v := .ref (A (17 + 4 * (sH σ a)))) hx hb hts (by decide +kernel) hown hK (hC.ver hhd) rfl 3 (by decide) rfl (List.mem_of_getElem? (i := 3) rfl) rfl dX3_join_45 ?_
    refine lv_aload_n hx hb dX3_join_48 rfl (lv_at hl 4 rfl) ?_
    refine k_getN (ci := 2) (C := RX2) (T := TX2) (N := 5) (v := .ref (A (17 + 4 * v))) hx hb hts (by decide +kernel) hown hK (hC.ver hv) rfl 3 (by decide) rfl (List.mem_of_getElem? (i := 3) rfl) rfl dX3_join_49 ?_
    refine lv_aload hx hb dX3_join_52 (lv_at hl 0 rfl) ?_
    refine k_callU (va_runVN (As := [.ref (A (17 + 4 * (sH σ a))), .ref (A (17 + 4 * v)), .ref (A 3)]) (rest := []) ⟨hx, hb, hml, hown, hts⟩ (c_X1_becomeMerged l D g b0 H (A 5) (A 6) (sM σ) hC.mg hC.mw (hC.ge (cl0 (by omega))) (hC.ne (cl0 (by omega)) (cl0 (by omega)) (by omega)) (A (17 + 4 * (sH σ a))) (A (18 + 4 * (sH σ a))) (sW σ (sH σ a)) (hC.ts hhd) (hC.tw hhd) (hC.ne (clV (sH σ a) hhd (by omega) (by omega)) (cl0 (by omega)) (by omega)) (hC.ne (clV (sH σ a) hhd (by omega) (by omega)) (cl0 (by omega)) (by omega)) (A (17 + 4 * v)) (A (18 + 4 * v)) (sW σ v) (hC.ts hv) (hC.tw hv) (hC.ne (clV v hv (by omega) (by omega)) (cl0 (by omega)) (by omega)) (hC.ne (clV v hv (by omega) (by omega)) (cl0 (by omega)) (by omega)) (A 3) (A 4) (fun _ => 0) hC.nt hC.nw (hC.ne (cl0 (by omega)) (cl0 (by omega)) (by omega)) (hC.ne (cl0 (by omega)) (cl0 (by omega)) (by omega))) ⟨va_cnB 3 hts gX3_join_X1_becomeMerged_n168 rfl rfl rfl (hK.2.1 (RX3, 168, yX1_becomeMerged) (List.mem_of_getElem? (i := 12) rfl)) (hts (.initialized RX1) (by decide +kernel)) (by decide +kernel) ⟨Nat.le_of_ble_eq_true rfl, Nat.le_of_ble_eq_true rfl⟩, hts (.instanceMethod yX1_becomeMerged) (by decide +kernel), hts (.selects RX1 yX1_becomeMerged yX1_becomeMerged) (by decide +kernel)⟩ ⟨kPc_blind, k_recv hK hC.mg rfl, fun U hU hW => kPc_at hK hU hW⟩ rfl rfl hl.1 rfl (lv_room (Nat.le_of_ble_eq_true rfl)) dX3_join_54 ⟨Nat.le_of_ble_eq_true rfl, Nat.le_of_ble_eq_true rfl⟩) LB.nil (fun H1 locs1 hLB1 hq1 => ?_)
    obtain ⟨f1, hw1, hCh, hf1v⟩ := hq1
    have hC1 := hC.merged hw1 hCh
    have hbH1 : b0 ≤ H1.size := Nat.le_trans hbH hCh.1
    have hF1 : CFr H A σ H1 A (gM σ f1) := CFr.chg (cl0 (by omega)) hCh (fun c hc => hc)
    refine lv_aload_n hx hb dX3_join_57 rfl (lv_at hl 2 rfl) ?_
    refine k_get (ci := 3) (C := RX3) (T := TX3) (N := 7) (v := .ref (A 5)) hx hb hts (by decide +kernel) hown hK hC1.o rfl 5 (by decide) rfl (hts (.fieldLink RX3 28 RX3 "merged" "LVersionMerge$TripleSet;") (by decide +kernel)) rfl dX3_join_58 ?_
    refine k_callX (va_runVN (As := []) (rest := []) ⟨hx, hb, hml, hown, hts⟩ (c_X1_crowdedKeys l D g H1 (A 5) (A 6) f1 hC1.mg hC1.mw) ⟨va_cnB 0 hts gX3_join_X1_crowdedKeys_n142 rfl rfl rfl (hK.2.1 (RX3, 142, yX1_crowdedKeys) (List.mem_of_getElem? (i := 13) rfl)) (hts (.initialized RX1) (by decide +kernel)) (by decide +kernel) ⟨Nat.le_of_ble_eq_true rfl, Nat.le_of_ble_eq_true rfl⟩, hts (.instanceMethod yX1_crowdedKeys) (by decide +kernel), hts (.selects RX1 yX1_crowdedKeys yX1_crowdedKeys) (by decide +kernel)⟩ ⟨kPc_blind, k_recv hK hC1.mg rfl, fun U hU hW => kPc_at hK hU hW⟩ rfl rfl hl.1 rfl (lv_room (Nat.le_of_ble_eq_true rfl)) dX3_join_61 ⟨Nat.le_of_ble_eq_true rfl, Nat.le_of_ble_eq_true rfl⟩) ?_
    have hcl := cnt_le (crowd (bt f1)) 256
    refine lv_istore (lv' := [(5, .int (nI (cnt (crowd (bt f1)) 256))), (4, .ref (A 3)), (3, .null), (0, .ref (A 0)), (1, .ref (A (2000 + a))), (2, .ref (A (16 + 4 * v)))]) hx hb dX3_join_64 hl (by decide) rfl (fun ls hl => ?_)
    refine lv_iload hx hb dX3_join_66 (lv_at hl 0 rfl) ?_
    refine n_if_ne (tgt := 82) hx hb dX3_join_68 (by decide) (by omega) (fun c_752 => ?_) (fun c_752 => ?_)
    · skip
      refine lv_iload hx hb dX3_join_82 (lv_at hl 0 rfl) ?_
      exact r_iI hx hb hr hLB1 (Nat.zero_le _) (Nat.zero_le _) ⟨A, gM σ f1, dw, hC1, hF1, Or.inr ⟨hV, _, f1, (Or.inl ⟨hgc, rfl⟩), hf1v, rfl, Or.inl ⟨c_752, rfl⟩⟩⟩ dX3_join_84 hlocks
    · skip
      refine lv_aload_n hx hb dX3_join_71 rfl (lv_at hl 3 rfl) ?_
      refine lv_aload_n hx hb dX3_join_72 rfl (lv_at hl 4 rfl) ?_
      refine lv_aload_n hx hb dX3_join_73 rfl (lv_at hl 5 rfl) ?_
      refine lv_aload_n hx hb dX3_join_74 rfl (lv_at hl 3 rfl) ?_
      refine k_get (ci := 3) (C := RX3) (T := TX3) (N := 7) (v := .ref (A 5)) hx hb hts (by decide +kernel) hown hK hC1.o rfl 5 (by decide) rfl (hts (.fieldLink RX3 28 RX3 "merged" "LVersionMerge$TripleSet;") (by decide +kernel)) rfl dX3_join_75 ?_
      refine k_callI (va_runV (As := [.ref (A (2000 + a)), .ref (A (16 + 4 * v)), .ref (A 5)]) (rest := []) ⟨hx, hb, hml, hown, hts⟩ (c_X3_advance_1 l D g b0 H1 A (gM σ f1) dw hC1 5 f1 (cl0 (by omega)) (cl0 (by omega)) hC1.mg hC1.mw hbH1 hV a ha4 v hv) (cwV 3 hts gX3_join_X3_advance rfl rfl rfl (by decide +kernel) ⟨Nat.le_of_ble_eq_true rfl, Nat.le_of_ble_eq_true rfl⟩) ⟨kPc_blind, k_recv hK hC1.o rfl, fun U hU hW => kPc_at hK hU hW⟩ rfl rfl hl.1 rfl (lv_room (Nat.le_of_ble_eq_true rfl)) dX3_join_78 ⟨Nat.le_of_ble_eq_true rfl, Nat.le_of_ble_eq_true rfl⟩) hLB1 (fun ra H2 locs2 hLB2 hq2 => ?_)
      refine W.widen (k := 4) (n := 470) (Nat.le_of_ble_eq_true rfl) (Nat.le_of_ble_eq_true rfl) ?_
      obtain ⟨hra, A2, w2, an2, hC2, hF2, hw2, han2⟩ := hq2
      refine lv_pop hx hb dX3_join_81 rfl ?_
      refine lv_iload hx hb dX3_join_82 (lv_at hl 0 rfl) ?_
      exact r_iI hx hb hr hLB2 (Nat.le_refl _) (Nat.le_refl _) ⟨A2, _, dw, hC2, hF1.tr hF2, Or.inr ⟨hV, _, f1, (Or.inl ⟨hgc, rfl⟩), hf1v, rfl, Or.inr ⟨c_752, w2, an2, rfl, han2, hw2⟩⟩⟩ dX3_join_84 hlocks
  · skip
    refine lv_bipush (v := (-4)) hx hb dX3_join_7 (by decide +kernel) ?_
    have hVf : sV σ = 400 := by have := of_decide_eq_true c_751; omega
    exact r_iI hx hb hr LB.nil (Nat.zero_le _) (Nat.zero_le _) ⟨A, σ, dw, hC, CFr.rf, Or.inl ⟨hVf, rfl, rfl⟩⟩ dX3_join_9 hlocks
set_option maxHeartbeats 4000000 in
set_option maxRecDepth 100000 in
/-- join -/
theorem c_X3_join_1 (l : Launch) (D : va_G) (g : Nat → ClassId) (b0 : Nat) (H : Heap) (A : Nat → Nat) (σ : SG) (dw : Nat → Int64) (hC : CR D g b0 A σ dw H) (hbH : b0 ≤ H.size) (a : Nat) (ha4 : a < sB σ) (v : Nat) (hv : v < sV σ) (c0 : Nat) (hgc : GC1 σ (sH σ a) v c0) : Met l yX3_join wsX3_join ({ frames := 5, cells := 4, slots := 470, locals := 133 } : Room) (kPc D g [.ref (A 0), .ref (A (2000 + a)), .ref (A (16 + 4 * v))] H) (kI (PubQ D g b0 H A σ (SpJoin σ a v))) 4 470 (kF b0) := by
  refine Met.ofW (cc := cX3_join) (maxL := 6) (ret := (some .int)) (by decide) rfl ?_
  intro p e s m args below meth c s₁ B hml hv
  obtain ⟨rfl, hH, hK⟩ := hv
  have hx := B.exec
  have hb := B.bytes
  have hr := B.returns
  have hts := atoms_spec (ws := wsX3_join) B.pre
  have hown : s.vm.findClass RX3 = some m.cls := findClass_of_methodNamed B.named
  have hlocks := B.notSynchronized
  rw [hH]
  have hl := lv_entry ([.ref (A 0), .ref (A (2000 + a)), .ref (A (16 + 4 * v))]) (n := 6) (Nat.le_of_ble_eq_true rfl)
  rw [lg_entry_eq]
  generalize (lg_sl ([.ref (A 0), .ref (A (2000 + a)), .ref (A (16 + 4 * v))]) ++ List.replicate (6 - (lg_sl ([.ref (A 0), .ref (A (2000 + a)), .ref (A (16 + 4 * v))])).length) Slot.unset).toArray = ls at hl ⊢
  have hl : lv_has ls 6 [(0, .ref (A 0)), (1, .ref (A (2000 + a))), (2, .ref (A (16 + 4 * v)))] := hl
  have hVB := hC.wf
  have hV4 : sV σ ≤ 400 := hVB.2.1
  have hB4 : sB σ ≤ 40 := hVB.2.2.2.1
  have hhd := hVB.2.2.2.2.1 a ha4
  have hcu := hVB.gc1 hhd hgc
  refine lv_aload_n hx hb dX3_join_0 rfl (lv_at hl 0 rfl) ?_
  refine k_callX (va_runV (As := []) (rest := []) ⟨hx, hb, hml, hown, hts⟩ (c_X3_isFull l D g b0 H A σ dw hC) (cwV 0 hts gX3_join_X3_isFull rfl rfl rfl (by decide +kernel) ⟨Nat.le_of_ble_eq_true rfl, Nat.le_of_ble_eq_true rfl⟩) ⟨kPc_blind, k_recv hK hC.o rfl, fun U hU hW => kPc_at hK hU hW⟩ rfl rfl hl.1 rfl (lv_room (Nat.le_of_ble_eq_true rfl)) dX3_join_1 ⟨Nat.le_of_ble_eq_true rfl, Nat.le_of_ble_eq_true rfl⟩) ?_
  refine z_if_eq (tgt := 10) hx hb dX3_join_4 (by decide) (fun c_753 => ?_) (fun c_753 => ?_)
  · skip
    refine lv_aload_n hx hb dX3_join_10 rfl (lv_at hl 0 rfl) ?_
    refine lv_aload_n hx hb dX3_join_11 rfl (lv_at hl 1 rfl) ?_
    refine k_getN (ci := 0) (C := RX0) (T := TX0) (N := 1) (v := .ref (A (16 + 4 * (sH σ a)))) hx hb hts (by decide +kernel) hown hK (hC.ba ha4) rfl 0 (by decide) rfl (List.mem_of_getElem? (i := 4) rfl) rfl dX3_join_12 ?_
    refine lv_aload_n hx hb dX3_join_15 rfl (lv_at hl 2 rfl) ?_
    have hV : sV σ < 400 := by have := of_decide_eq_false c_753; omega
    refine k_callX (va_runV (As := [.ref (A (16 + 4 * (sH σ a))), .ref (A (16 + 4 * v))]) (rest := []) ⟨hx, hb, hml, hown, hts⟩ (c_X3_greatestCommon_1 l D g b0 H A σ dw hC (sH σ a) v hhd hv c0 hgc) (cwV 2 hts gX3_join_X3_greatestCommon rfl rfl rfl (by decide +kernel) ⟨Nat.le_of_ble_eq_true rfl, Nat.le_of_ble_eq_true rfl⟩) ⟨kPc_blind, k_recv hK hC.o rfl, fun U hU hW => kPc_at hK hU hW⟩ rfl rfl hl.1 rfl (lv_room (Nat.le_of_ble_eq_true rfl)) dX3_join_16 ⟨Nat.le_of_ble_eq_true rfl, Nat.le_of_ble_eq_true rfl⟩) ?_
    refine lv_astore_n (lv' := [(3, .ref (A (16 + 4 * c0))), (0, .ref (A 0)), (1, .ref (A (2000 + a))), (2, .ref (A (16 + 4 * v)))]) hx hb dX3_join_19 rfl hl (by decide) rfl (fun ls hl => ?_)
    refine lv_aload_n hx hb dX3_join_20 rfl (lv_at hl 0 rfl) ?_
    refine lv_ifnonnull (tgt := 31) hx hb dX3_join_21 (by decide) ?_
    refine lv_aload_n hx hb dX3_join_31 rfl (lv_at hl 0 rfl) ?_
    refine k_getN (ci := 2) (C := RX2) (T := TX2) (N := 5) (v := .ref (A (17 + 4 * c0))) hx hb hts (by decide +kernel) hown hK (hC.ver (show c0 < sV σ by omega)) rfl 3 (by decide) rfl (List.mem_of_getElem? (i := 3) rfl) rfl dX3_join_32 ?_
    refine lv_astore (lv' := [(4, .ref (A (17 + 4 * c0))), (3, .ref (A (16 + 4 * c0))), (0, .ref (A 0)), (1, .ref (A (2000 + a))), (2, .ref (A (16 + 4 * v)))]) hx hb dX3_join_35 hl (by decide) rfl (fun ls hl => ?_)
    refine lv_aload_n hx hb dX3_join_37 rfl (lv_at hl 2 rfl) ?_
    refine k_get (ci := 3) (C := RX3) (T := TX3) (N := 7) (v := .ref (A 5)) hx hb hts (by decide +kernel) hown hK hC.o rfl 5 (by decide) rfl (hts (.fieldLink RX3 28 RX3 "merged" "LVersionMerge$TripleSet;") (by decide +kernel)) rfl dX3_join_38 ?_
    refine lv_aload_n hx hb dX3_join_41 rfl (lv_at hl 3 rfl) ?_
    refine k_getN (ci := 0) (C := RX0) (T := TX0) (N := 1) (v := .ref (A (16 + 4 * (sH σ a)))) hx hb hts (by decide +kernel) hown hK (hC.ba ha4) rfl 0 (by decide) rfl (List.mem_of_getElem? (i := 4) rfl) rfl dX3_join_42 ?_
    refine k_getN (ci := 2) (C := RX2) (T := TX2) (N := 5) (v := .ref (A (17 + 4 * (sH σ a)))) hx hb hts (by decide +kernel) hown hK (hC.ver hhd) rfl 3 (by decide) rfl (List.mem_of_getElem? (i := 3) rfl) rfl dX3_join_45 ?_
    refine lv_aload_n hx hb dX3_join_48 rfl (lv_at hl 4 rfl) ?_
    refine k_getN (ci := 2) (C := RX2) (T := TX2) (N := 5) (v := .ref (A (17 + 4 * v))) hx hb hts (by decide +kernel) hown hK (hC.ver hv) rfl 3 (by decide) rfl (List.mem_of_getElem? (i := 3) rfl) rfl dX3_join_49 ?_
    refine lv_aload hx hb dX3_join_52 (lv_at hl 0 rfl) ?_
    refine k_callU (va_runVN (As := [.ref (A (17 + 4 * (sH σ a))), .ref (A (17 + 4 * v)), .ref (A (17 + 4 * c0))]) (rest := []) ⟨hx, hb, hml, hown, hts⟩ (c_X1_becomeMerged l D g b0 H (A 5) (A 6) (sM σ) hC.mg hC.mw (hC.ge (cl0 (by omega))) (hC.ne (cl0 (by omega)) (cl0 (by omega)) (by omega)) (A (17 + 4 * (sH σ a))) (A (18 + 4 * (sH σ a))) (sW σ (sH σ a)) (hC.ts hhd) (hC.tw hhd) (hC.ne (clV (sH σ a) hhd (by omega) (by omega)) (cl0 (by omega)) (by omega)) (hC.ne (clV (sH σ a) hhd (by omega) (by omega)) (cl0 (by omega)) (by omega)) (A (17 + 4 * v)) (A (18 + 4 * v)) (sW σ v) (hC.ts hv) (hC.tw hv) (hC.ne (clV v hv (by omega) (by omega)) (cl0 (by omega)) (by omega)) (hC.ne (clV v hv (by omega) (by omega)) (cl0 (by omega)) (by omega)) (A (17 + 4 * c0)) (A (18 + 4 * c0)) (sW σ c0) (hC.ts (show c0 < sV σ by omega)) (hC.tw (show c0 < sV σ by omega)) (hC.ne (clV c0 (by omega) (by omega) (by omega)) (cl0 (by omega)) (by omega)) (hC.ne (clV c0 (by omega) (by omega) (by omega)) (cl0 (by omega)) (by omega))) ⟨va_cnB 3 hts gX3_join_X1_becomeMerged_n168 rfl rfl rfl (hK.2.1 (RX3, 168, yX1_becomeMerged) (List.mem_of_getElem? (i := 12) rfl)) (hts (.initialized RX1) (by decide +kernel)) (by decide +kernel) ⟨Nat.le_of_ble_eq_true rfl, Nat.le_of_ble_eq_true rfl⟩, hts (.instanceMethod yX1_becomeMerged) (by decide +kernel), hts (.selects RX1 yX1_becomeMerged yX1_becomeMerged) (by decide +kernel)⟩ ⟨kPc_blind, k_recv hK hC.mg rfl, fun U hU hW => kPc_at hK hU hW⟩ rfl rfl hl.1 rfl (lv_room (Nat.le_of_ble_eq_true rfl)) dX3_join_54 ⟨Nat.le_of_ble_eq_true rfl, Nat.le_of_ble_eq_true rfl⟩) LB.nil (fun H1 locs1 hLB1 hq1 => ?_)
    obtain ⟨f1, hw1, hCh, hf1v⟩ := hq1
    have hC1 := hC.merged hw1 hCh
    have hbH1 : b0 ≤ H1.size := Nat.le_trans hbH hCh.1
    have hF1 : CFr H A σ H1 A (gM σ f1) := CFr.chg (cl0 (by omega)) hCh (fun c hc => hc)
    refine lv_aload_n hx hb dX3_join_57 rfl (lv_at hl 2 rfl) ?_
    refine k_get (ci := 3) (C := RX3) (T := TX3) (N := 7) (v := .ref (A 5)) hx hb hts (by decide +kernel) hown hK hC1.o rfl 5 (by decide) rfl (hts (.fieldLink RX3 28 RX3 "merged" "LVersionMerge$TripleSet;") (by decide +kernel)) rfl dX3_join_58 ?_
    refine k_callX (va_runVN (As := []) (rest := []) ⟨hx, hb, hml, hown, hts⟩ (c_X1_crowdedKeys l D g H1 (A 5) (A 6) f1 hC1.mg hC1.mw) ⟨va_cnB 0 hts gX3_join_X1_crowdedKeys_n142 rfl rfl rfl (hK.2.1 (RX3, 142, yX1_crowdedKeys) (List.mem_of_getElem? (i := 13) rfl)) (hts (.initialized RX1) (by decide +kernel)) (by decide +kernel) ⟨Nat.le_of_ble_eq_true rfl, Nat.le_of_ble_eq_true rfl⟩, hts (.instanceMethod yX1_crowdedKeys) (by decide +kernel), hts (.selects RX1 yX1_crowdedKeys yX1_crowdedKeys) (by decide +kernel)⟩ ⟨kPc_blind, k_recv hK hC1.mg rfl, fun U hU hW => kPc_at hK hU hW⟩ rfl rfl hl.1 rfl (lv_room (Nat.le_of_ble_eq_true rfl)) dX3_join_61 ⟨Nat.le_of_ble_eq_true rfl, Nat.le_of_ble_eq_true rfl⟩) ?_
    have hcl := cnt_le (crowd (bt f1)) 256
    refine lv_istore (lv' := [(5, .int (nI (cnt (crowd (bt f1)) 256))), (4, .ref (A (17 + 4 * c0))), (3, .ref (A (16 + 4 * c0))), (0, .ref (A 0)), (1, .ref (A (2000 + a))), (2, .ref (A (16 + 4 * v)))]) hx hb dX3_join_64 hl (by decide) rfl (fun ls hl => ?_)
    refine lv_iload hx hb dX3_join_66 (lv_at hl 0 rfl) ?_
    refine n_if_ne (tgt := 82) hx hb dX3_join_68 (by decide) (by omega) (fun c_754 => ?_) (fun c_754 => ?_)
    · skip
      refine lv_iload hx hb dX3_join_82 (lv_at hl 0 rfl) ?_
      exact r_iI hx hb hr hLB1 (Nat.zero_le _) (Nat.zero_le _) ⟨A, gM σ f1, dw, hC1, hF1, Or.inr ⟨hV, _, f1, (Or.inr ⟨c0, hgc, rfl⟩), hf1v, rfl, Or.inl ⟨c_754, rfl⟩⟩⟩ dX3_join_84 hlocks
    · skip
      refine lv_aload_n hx hb dX3_join_71 rfl (lv_at hl 3 rfl) ?_
      refine lv_aload_n hx hb dX3_join_72 rfl (lv_at hl 4 rfl) ?_
      refine lv_aload_n hx hb dX3_join_73 rfl (lv_at hl 5 rfl) ?_
      refine lv_aload_n hx hb dX3_join_74 rfl (lv_at hl 3 rfl) ?_
      refine k_get (ci := 3) (C := RX3) (T := TX3) (N := 7) (v := .ref (A 5)) hx hb hts (by decide +kernel) hown hK hC1.o rfl 5 (by decide) rfl (hts (.fieldLink RX3 28 RX3 "merged" "LVersionMerge$TripleSet;") (by decide +kernel)) rfl dX3_join_75 ?_
      refine k_callI (va_runV (As := [.ref (A (2000 + a)), .ref (A (16 + 4 * v)), .ref (A 5)]) (rest := []) ⟨hx, hb, hml, hown, hts⟩ (c_X3_advance_1 l D g b0 H1 A (gM σ f1) dw hC1 5 f1 (cl0 (by omega)) (cl0 (by omega)) hC1.mg hC1.mw hbH1 hV a ha4 v hv) (cwV 3 hts gX3_join_X3_advance rfl rfl rfl (by decide +kernel) ⟨Nat.le_of_ble_eq_true rfl, Nat.le_of_ble_eq_true rfl⟩) ⟨kPc_blind, k_recv hK hC1.o rfl, fun U hU hW => kPc_at hK hU hW⟩ rfl rfl hl.1 rfl (lv_room (Nat.le_of_ble_eq_true rfl)) dX3_join_78 ⟨Nat.le_of_ble_eq_true rfl, Nat.le_of_ble_eq_true rfl⟩) hLB1 (fun ra H2 locs2 hLB2 hq2 => ?_)
      refine W.widen (k := 4) (n := 470) (Nat.le_of_ble_eq_true rfl) (Nat.le_of_ble_eq_true rfl) ?_
      obtain ⟨hra, A2, w2, an2, hC2, hF2, hw2, han2⟩ := hq2
      refine lv_pop hx hb dX3_join_81 rfl ?_
      refine lv_iload hx hb dX3_join_82 (lv_at hl 0 rfl) ?_
      exact r_iI hx hb hr hLB2 (Nat.le_refl _) (Nat.le_refl _) ⟨A2, _, dw, hC2, hF1.tr hF2, Or.inr ⟨hV, _, f1, (Or.inr ⟨c0, hgc, rfl⟩), hf1v, rfl, Or.inr ⟨c_754, w2, an2, rfl, han2, hw2⟩⟩⟩ dX3_join_84 hlocks
  · skip
    refine lv_bipush (v := (-4)) hx hb dX3_join_7 (by decide +kernel) ?_
    have hVf : sV σ = 400 := by have := of_decide_eq_true c_753; omega
    exact r_iI hx hb hr LB.nil (Nat.zero_le _) (Nat.zero_le _) ⟨A, σ, dw, hC, CFr.rf, Or.inl ⟨hVf, rfl, rfl⟩⟩ dX3_join_9 hlocks
