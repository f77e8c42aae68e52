/-! the reference: rows come together -/
def mrg (fr : Bool) (row N : Nat → Nat) (r : Nat) : Nat := if fr = true ∨ row r = N r then N r else 0
def chR (fr : Bool) (row N : Nat → Nat) : Nat → Bool
  | 0 => false
  | j + 1 => chR fr row N j || decide (¬ mrg fr row N j = row j)
def upT (T : Nat → Nat → Nat) (p : Nat) (row : Nat → Nat) : Nat → Nat → Nat := fun q => if q = p then row else T q
def RC (σ : fr_S) (m : Nat) (Rc : Nat → Bool) : Prop := ∀ p, p < 40 → gI σ 730 (40 * m + p) = b2i (Rc p)
def upB (Rc : Nat → Bool) (p : Nat) : Nat → Bool := fun q => if q = p then true else Rc q
/-- outside the method's own parts nothing has changed; of the object only 'changed' -/
def FO (σ σ' : fr_S) (m : Nat) : Prop := Ag [717, 730, 731] σ σ' ∧ (∀ k, k ≠ 20 → gI σ' 717 k = gI σ 717 k) ∧ SP m 730 σ σ' ∧ ∀ j, (j < 400 * m ∨ 400 * m + 400 ≤ j) → gI σ' 731 j = gI σ 731 j
theorem FO.rf {σ : fr_S} {m : Nat} : FO σ σ m := ⟨Ag.rf, fun _ _ => rfl, fun _ _ => rfl, fun _ _ => rfl⟩
theorem FO.tr {a b c : fr_S} {m : Nat} (h : FO a b m) (h2 : FO b c m) : FO a c m := ⟨h.1.tr h2.1, fun k hk => (h2.2.1 k hk).trans (h.2.1 k hk), fun j hj => (h2.2.2.1 j hj).trans (h.2.2.1 j hj), fun j hj => (h2.2.2.2 j hj).trans (h.2.2.2 j hj)⟩
theorem FO.ch {a b : fr_S} {m : Nat} (h : FO a b m) {v : Int32} : FO a (sI b 717 20 v) m := ⟨ag_sI h.1 (by decide), fun k hk => by rw [gI_n (Or.inr hk)]; exact h.2.1 k hk, fun j hj => by rw [gI_n (Or.inl (by decide))]; exact h.2.2.1 j hj, fun j hj => by rw [gI_n (Or.inl (by decide))]; exact h.2.2.2 j hj⟩
theorem FO.ty {a b : fr_S} {m p r : Nat} (hp : p < 40) (hr : r < 10) (h : FO a b m) {v : Int32} : FO a (sI b 731 (10 * (40 * m + p) + r) v) m := ⟨ag_sI h.1 (by decide), fun k hk => by rw [gI_n (Or.inl (by decide))]; exact h.2.1 k hk, fun j hj => by rw [gI_n (Or.inl (by decide))]; exact h.2.2.1 j hj, fun j hj => by rw [gI_n (Or.inr (by omega))]; exact h.2.2.2 j hj⟩
theorem FO.rc {a b : fr_S} {m p : Nat} (hp : p < 40) (h : FO a b m) {v : Int32} : FO a (sI b 730 (40 * m + p) v) m := ⟨ag_sI h.1 (by decide), fun k hk => by rw [gI_n (Or.inl (by decide))]; exact h.2.1 k hk, fun j hj => by rw [gI_n (Or.inr (by omega))]; exact h.2.2.1 j hj, fun j hj => by rw [gI_n (Or.inl (by decide))]; exact h.2.2.2 j hj⟩
theorem TY.s {σ : fr_S} {m p r t : Nat} {T : Nat → Nat → Nat} (hp : p < 40) (hr : r < 10) (h : TY σ m T) : TY (sI σ 731 (10 * (40 * m + p) + r) (nI t)) m (upT T p (va_up (T p) r t)) := by
  intro q hq j hj
  by_cases e : q = p
  · subst e
    by_cases e2 : j = r
    · subst e2
      rw [gI_s]
      simp [upT, va_up]
    · rw [gI_n (Or.inr (by omega)), h q hq j hj]
      simp [upT, va_up, e2]
  · rw [gI_n (Or.inr (by omega)), h q hq j hj]
    simp [upT, e]
theorem upT_up {T : Nat → Nat → Nat} {p : Nat} {a b : Nat → Nat} : upT (upT T p a) p b = upT T p b := by
  funext q
  unfold upT
  by_cases e : q = p <;> simp [e]
theorem upT_s {T : Nat → Nat → Nat} {p : Nat} {a : Nat → Nat} : upT T p a p = a := by simp [upT]
theorem ch_s {fr ch : Bool} {row N : Nat → Nat} {j t : Nat} (ht : t = mrg fr row N j) : ((ch || fr) || chR fr row N (j + 1)) = (((ch || fr) || chR fr row N j) || decide (¬ t = row j)) := by
  subst ht
  simp only [chR, Bool.or_assoc]
theorem mrg_WP {fr : Bool} {row N : Nat → Nat} (hN : WP N) (hr : fr = false → WP row) : WP (mrg fr row N) := by
  intro r hr10
  obtain ⟨a1, a2, a3⟩ := hN r hr10
  cases fr with
  | true =>
    have e : ∀ j, mrg true row N j = N j := fun j => by simp [mrg]
    simp only [e]
    exact ⟨a1, a2, a3⟩
  | false =>
    have hW := hr rfl
    obtain ⟨b1, b2, b3⟩ := hW r hr10
    have e : ∀ j, mrg false row N j = if row j = N j then N j else 0 := fun j => by simp [mrg]
    simp only [e]
    refine ⟨by split <;> omega, fun q => ?_, fun q => ?_⟩
    · split at q
      · rename_i h
        obtain ⟨c1, c2⟩ := a2 q
        obtain ⟨d1, d2⟩ := b2 (by omega)
        refine ⟨c1, ?_⟩
        rw [if_pos (by omega), if_pos h]
        exact c2
      · omega
    · split at q
      · rename_i h
        obtain ⟨c1, c2⟩ := a3 q
        obtain ⟨d1, d2⟩ := b3 (by omega)
        refine ⟨c1, ?_⟩
        rw [if_pos (by omega), if_pos h]
        exact c2
      · omega
/-- the state while the row of p is merged, up to j -/
def FI (σ σ1 : fr_S) (m p : Nat) (T : Nat → Nat → Nat) (Rc : Nat → Bool) (N : Nat → Nat) (fr ch : Bool) (j : Nat) : Prop :=
  MR σ1 ∧ TY σ1 m (upT T p (cpR (mrg fr (T p) N) (T p) j)) ∧ RC σ1 m (upB Rc p) ∧ NW σ1 N ∧ gI σ1 717 20 = b2i ((ch || fr) || chR fr (T p) N j) ∧ FO σ σ1 m
theorem NW.ag0 {σ σ' : fr_S} {N : Nat → Nat} (h : NW σ N) (e : ∀ k, gI σ' 732 k = gI σ 732 k) : NW σ' N := fun r hr => by rw [e]; exact h r hr
theorem FI.s {σ σ1 : fr_S} {m p : Nat} {T : Nat → Nat → Nat} {Rc : Nat → Bool} {N : Nat → Nat} {fr ch : Bool} {j t : Nat} {b : Bool} (hp : p < 40) (hj : j < 10) (h : FI σ σ1 m p T Rc N fr ch j) (ht : t = mrg fr (T p) N j) (hb : b = ((ch || fr) || chR fr (T p) N (j + 1))) : FI σ (sI (sI σ1 717 20 (b2i b)) 731 (10 * (40 * m + p) + j) (nI t)) m p T Rc N fr ch (j + 1) := by
  obtain ⟨h1, h2, h3, h4, h5, h6⟩ := h
  refine ⟨h1, ?_, ?_, ?_, ?_, ?_⟩
  · have h7 : TY (sI σ1 717 20 (b2i b)) m (upT T p (cpR (mrg fr (T p) N) (T p) j)) := h2.ag (S := [717]) (ag_sI Ag.rf (by decide)) (by decide)
    have h8 := h7.s (t := t) hp hj
    rw [upT_s, upT_up, ht, cpR_s, ← ht] at h8
    exact h8
  · intro q hq
    rw [gI_n (Or.inl (by decide)), gI_n (Or.inl (by decide))]
    exact h3 q hq
  · intro r hr
    rw [gI_n (Or.inl (by decide)), gI_n (Or.inl (by decide))]
    exact h4 r hr
  · rw [gI_n (Or.inl (by decide)), gI_s, hb]
  · exact h6.ch.ty hp hj
theorem FI.c {σ σ1 : fr_S} {m p : Nat} {T : Nat → Nat → Nat} {Rc : Nat → Bool} {N : Nat → Nat} {fr ch : Bool} {j : Nat} {b : Bool} (h : FI σ σ1 m p T Rc N fr ch j) (hb : b = ((ch || fr) || chR fr (T p) N j)) : FI σ (sI σ1 717 20 (b2i b)) m p T Rc N fr ch j := by
  obtain ⟨h1, h2, h3, h4, h5, h6⟩ := h
  refine ⟨h1, h2.ag (S := [717]) (ag_sI Ag.rf (by decide)) (by decide), ?_, ?_, by rw [gI_s, hb], h6.ch⟩
  · intro q hq
    rw [gI_n (Or.inl (by decide))]
    exact h3 q hq
  · intro r hr
    rw [gI_n (Or.inl (by decide))]
    exact h4 r hr

set_option maxRecDepth 100000 in
set_option maxHeartbeats 1000000 in
theorem m_flow_l2 {l : Launch} {G : fr_G} {σ : fr_S} {m p : Nat} {T : Nat → Nat → Nat} {Rc : Nat → Bool} {N : Nat → Nat} {fr ch : Bool} (hm : m < 4) (hpl : p < 40) (hWN : WP N) (hWr : fr = false → WP (T p)) (hT6 : ∀ q r, T q r ≤ 6) (hN6 : ∀ r, N r ≤ 6) {Post : Option Value → fr_S → Prop} (hq : ∀ σ', FI σ σ' m p T Rc N fr ch 10 → Post none σ') : ∀ (d : Nat) (j : Nat) (σ1 : fr_S), 10 - j < d → j ≤ 10 → FI σ σ1 m p T Rc N fr ch 10 → PX l G yy_Mo_flow rm_Mo_flow (QR G false 742 0 0 Post) false 742 0 0 161 [(0, .ref (717)), (1, .int (nI (m))), (2, .int (nI (p))), (3, .int (nI (10 * (40 * m + p)))), (4, .int (b2i (fr))), (5, .int (nI (j)))] [] (σ1) := by
  intro d
  induction d with
  | zero => intro j σ1 hd; exact absurd hd (Nat.not_lt_zero _)
  | succ d ih =>
    intro j σ1 hd hj hI
    obtain ⟨hM, hT, hRC, hN, hC, hFO⟩ := id hI
    have hWM := mrg_WP hWN hWr
    have hM6 : ∀ r, mrg fr (T p) N r ≤ 6 := fun r => by (unfold mrg; have := hN6 r; split <;> omega)
    have key : ∀ r, r < 10 → gI σ1 731 (10 * (40 * m + p) + r) = nI (mrg fr (T p) N r) := fun r hr => by (have e := hT p hpl r hr; rw [upT_s] at e; rw [e]; unfold cpR; rw [if_pos hr])
    have hTj1 : j + 1 < 10 → gI σ1 731 (10 * (40 * m + p) + j + 1) = nI (mrg fr (T p) N (j + 1)) := fun h => by (have e := key (j + 1) h; rw [← Nat.add_assoc] at e; exact e)
    have hTj2 : 1 ≤ j ∧ j ≤ 10 → gI σ1 731 (10 * (40 * m + p) + j - 1) = nI (mrg fr (T p) N (j - 1)) := fun h => by (have e := key (j - 1) (by omega); rw [show 10 * (40 * m + p) + j - 1 = 10 * (40 * m + p) + (j - 1) by omega]; exact e)
    refine px_iload dx_Mo_flow_161 rfl ?_
    refine px_bipush (v := 10) dx_Mo_flow_163 rfl ?_
    refine px_icmp_geN (a := j) (b := 10) dx_Mo_flow_165 (by first | omega | exact Nat.lt_of_le_of_lt (hM6 _) (by decide) | (have := hM6 j; omega) | (have := hM6 (j - 1); omega) | (have := hM6 (j + 1); omega)) (by first | omega | exact Nat.lt_of_le_of_lt (hM6 _) (by decide) | (have := hM6 j; omega) | (have := hM6 (j - 1); omega) | (have := hM6 (j + 1); omega)) (fun c_165 => ?_) (fun c_165 => ?_)
    · exact px_vret dx_Mo_flow_301 rfl (by exact hq σ1 hI)
    · have hTj := key j (by omega)
      obtain ⟨hw1, hw2, hw3⟩ := hWM j (by omega)
      refine px_aload_n dx_Mo_flow_168 rfl ?_
      refine px_getR (r := 731) dx_Mo_flow_169 fl_Mo_54 rfl (by decide) rfl (hM 18) ?_
      refine px_iload_n dx_Mo_flow_172 rfl ?_
      refine px_iload dx_Mo_flow_173 rfl ?_
      refine px_iaddN (a := 10 * (40 * m + p)) (b := j) dx_Mo_flow_175 ?_
      refine px_ialdN (j := (10 * (40 * m + p)) + j) dx_Mo_flow_176 rfl (by decide) (by omega) ?_
      refine px_eqi (y := nI (mrg fr (T p) N j)) hTj ?_
      refine px_istore (lv' := [(6, .int (nI (mrg fr (T p) N j))), (0, .ref (717)), (1, .int (nI (m))), (2, .int (nI (p))), (3, .int (nI (10 * (40 * m + p)))), (4, .int (b2i (fr))), (5, .int (nI (j)))]) dx_Mo_flow_177 (by decide) rfl ?_
      refine px_iload dx_Mo_flow_179 rfl ?_
      refine px_iconst (v := 3) dx_Mo_flow_181 rfl ?_
      refine px_icmp_eqN (a := mrg fr (T p) N j) (b := 3) dx_Mo_flow_182 (by first | omega | exact Nat.lt_of_le_of_lt (hM6 _) (by decide) | (have := hM6 j; omega) | (have := hM6 (j - 1); omega) | (have := hM6 (j + 1); omega)) (by first | omega | exact Nat.lt_of_le_of_lt (hM6 _) (by decide) | (have := hM6 j; omega) | (have := hM6 (j - 1); omega) | (have := hM6 (j + 1); omega)) (fun c_182 => ?_) (fun c_182 => ?_)
      · refine px_iload dx_Mo_flow_191 rfl ?_
        refine px_bipush (v := 9) dx_Mo_flow_193 rfl ?_
        refine px_icmp_eqN (a := j) (b := 9) dx_Mo_flow_195 (by first | omega | exact Nat.lt_of_le_of_lt (hM6 _) (by decide) | (have := hM6 j; omega) | (have := hM6 (j - 1); omega) | (have := hM6 (j + 1); omega)) (by first | omega | exact Nat.lt_of_le_of_lt (hM6 _) (by decide) | (have := hM6 j; omega) | (have := hM6 (j - 1); omega) | (have := hM6 (j + 1); omega)) (fun c_195 => ?_) (fun c_195 => ?_)
        · exfalso; first | omega | (obtain ⟨x1, x2⟩ := hw2 (by omega); omega) | (obtain ⟨x1, x2⟩ := hw3 (by omega); omega)
        · refine px_aload_n dx_Mo_flow_198 rfl ?_
          refine px_getR (r := 731) dx_Mo_flow_199 fl_Mo_54 rfl (by decide) rfl (hM 18) ?_
          refine px_iload_n dx_Mo_flow_202 rfl ?_
          refine px_iload dx_Mo_flow_203 rfl ?_
          refine px_iaddN (a := 10 * (40 * m + p)) (b := j) dx_Mo_flow_205 ?_
          refine px_iconst (v := 1) dx_Mo_flow_206 rfl ?_
          refine px_iaddN (a := (10 * (40 * m + p)) + j) (b := 1) dx_Mo_flow_207 ?_
          refine px_ialdN (j := ((10 * (40 * m + p)) + j) + 1) dx_Mo_flow_208 rfl (by decide) (by omega) ?_
          refine px_eqi (y := nI (mrg fr (T p) N (j + 1))) (hTj1 (by omega)) ?_
          refine px_iload dx_Mo_flow_209 rfl ?_
          refine px_iconst (v := 1) dx_Mo_flow_211 rfl ?_
          refine px_iaddN (a := mrg fr (T p) N j) (b := 1) dx_Mo_flow_212 ?_
          refine px_icmp_neN (a := mrg fr (T p) N (j + 1)) (b := (mrg fr (T p) N j) + 1) dx_Mo_flow_213 (by first | omega | exact Nat.lt_of_le_of_lt (hM6 _) (by decide) | (have := hM6 j; omega) | (have := hM6 (j - 1); omega) | (have := hM6 (j + 1); omega)) (by first | omega | exact Nat.lt_of_le_of_lt (hM6 _) (by decide) | (have := hM6 j; omega) | (have := hM6 (j - 1); omega) | (have := hM6 (j + 1); omega)) (fun c_213 => ?_) (fun c_213 => ?_)
          · exfalso; first | omega | (obtain ⟨x1, x2⟩ := hw2 (by omega); omega) | (obtain ⟨x1, x2⟩ := hw3 (by omega); omega)
          · refine px_iload dx_Mo_flow_216 rfl ?_
            refine px_iconst (v := 4) dx_Mo_flow_218 rfl ?_
            refine px_icmp_eqN (a := mrg fr (T p) N j) (b := 4) dx_Mo_flow_219 (by first | omega | exact Nat.lt_of_le_of_lt (hM6 _) (by decide) | (have := hM6 j; omega) | (have := hM6 (j - 1); omega) | (have := hM6 (j + 1); omega)) (by first | omega | exact Nat.lt_of_le_of_lt (hM6 _) (by decide) | (have := hM6 j; omega) | (have := hM6 (j - 1); omega) | (have := hM6 (j + 1); omega)) (fun c_219 => ?_) (fun c_219 => ?_)
            · refine px_iload dx_Mo_flow_229 rfl ?_
              refine px_if_eqN (a := j) dx_Mo_flow_231 (by first | omega | exact Nat.lt_of_le_of_lt (hM6 _) (by decide) | (have := hM6 j; omega) | (have := hM6 (j - 1); omega) | (have := hM6 (j + 1); omega)) (fun c_231 => ?_) (fun c_231 => ?_)
              · exfalso; first | omega | (obtain ⟨x1, x2⟩ := hw2 (by omega); omega) | (obtain ⟨x1, x2⟩ := hw3 (by omega); omega)
              · refine px_aload_n dx_Mo_flow_234 rfl ?_
                refine px_getR (r := 731) dx_Mo_flow_235 fl_Mo_54 rfl (by decide) rfl (hM 18) ?_
                refine px_iload_n dx_Mo_flow_238 rfl ?_
                refine px_iload dx_Mo_flow_239 rfl ?_
                refine px_iaddN (a := 10 * (40 * m + p)) (b := j) dx_Mo_flow_241 ?_
                refine px_iconst (v := 1) dx_Mo_flow_242 rfl ?_
                refine px_isubN (a := (10 * (40 * m + p)) + j) (b := 1) dx_Mo_flow_243 (by omega) ?_
                refine px_ialdN (j := ((10 * (40 * m + p)) + j) - 1) dx_Mo_flow_244 rfl (by decide) (by omega) ?_
                refine px_eqi (y := nI (mrg fr (T p) N (j - 1))) (hTj2 (by omega)) ?_
                refine px_iload dx_Mo_flow_245 rfl ?_
                refine px_iconst (v := 1) dx_Mo_flow_247 rfl ?_
                refine px_isubN (a := mrg fr (T p) N j) (b := 1) dx_Mo_flow_248 (by omega) ?_
                refine px_icmp_eqN (a := mrg fr (T p) N (j - 1)) (b := (mrg fr (T p) N j) - 1) dx_Mo_flow_249 (by first | omega | exact Nat.lt_of_le_of_lt (hM6 _) (by decide) | (have := hM6 j; omega) | (have := hM6 (j - 1); omega) | (have := hM6 (j + 1); omega)) (by first | omega | exact Nat.lt_of_le_of_lt (hM6 _) (by decide) | (have := hM6 j; omega) | (have := hM6 (j - 1); omega) | (have := hM6 (j + 1); omega)) (fun c_249 => ?_) (fun c_249 => ?_)
                · refine px_iconst (v := 0) dx_Mo_flow_256 rfl ?_
                  refine px_istore (lv' := [(7, .int (0)), (6, .int (nI (mrg fr (T p) N j))), (0, .ref (717)), (1, .int (nI (m))), (2, .int (nI (p))), (3, .int (nI (10 * (40 * m + p)))), (4, .int (b2i (fr))), (5, .int (nI (j)))]) dx_Mo_flow_257 (by decide) rfl ?_
                  refine px_iload dx_Mo_flow_259 rfl ?_
                  refine px_if_eq dx_Mo_flow_261 (fun _ => ?_) (fun q => absurd (by decide) q)
                  refine px_aload_n dx_Mo_flow_274 rfl ?_
                  refine px_aload_n dx_Mo_flow_275 rfl ?_
                  refine px_getI dx_Mo_flow_276 fl_Mo_274 rfl (by decide) rfl ?_
                  refine px_eqi (y := b2i ((ch || fr) || chR fr (T p) N 10)) hC ?_
                  refine px_if_neB dx_Mo_flow_279 (fun c_279 => ?_) (fun c_279 => ?_)
                  · refine px_iconst (v := 1) dx_Mo_flow_287 rfl ?_
                    refine px_goto dx_Mo_flow_288 ?_
                    refine px_putZ dx_Mo_flow_292 fl_Mo_274 rfl (by decide) rfl (by decide) ?_
                    refine px_iinc (v := (nI (j + 1))) (lv' := [(5, .int (nI (j + 1))), (7, .int (0)), (6, .int (nI (mrg fr (T p) N j))), (0, .ref (717)), (1, .int (nI (m))), (2, .int (nI (p))), (3, .int (nI (10 * (40 * m + p)))), (4, .int (b2i (fr)))]) dx_Mo_flow_295 rfl (nI_1 _) (by decide) rfl ?_
                    refine px_goto dx_Mo_flow_298 ?_
                    refine px_sub [3, 4, 5, 6, 7, 0] rfl ?_
                    exact ih (j + 1) (sI σ1 717 20 1) (by omega) (by omega) (hI.c (b := true) (by first | exact c_279.symm | exact c_276.symm | (simp only [Bool.or_eq_false_iff] at *; simp_all)))
                  · refine px_iload dx_Mo_flow_282 rfl ?_
                    refine px_if_eq dx_Mo_flow_284 (fun _ => ?_) (fun q => absurd (by decide) q)
                    refine px_iconst (v := 0) dx_Mo_flow_291 rfl ?_
                    refine px_putZ dx_Mo_flow_292 fl_Mo_274 rfl (by decide) rfl (by decide) ?_
                    refine px_iinc (v := (nI (j + 1))) (lv' := [(5, .int (nI (j + 1))), (7, .int (0)), (6, .int (nI (mrg fr (T p) N j))), (0, .ref (717)), (1, .int (nI (m))), (2, .int (nI (p))), (3, .int (nI (10 * (40 * m + p)))), (4, .int (b2i (fr)))]) dx_Mo_flow_295 rfl (nI_1 _) (by decide) rfl ?_
                    refine px_goto dx_Mo_flow_298 ?_
                    refine px_sub [3, 4, 5, 6, 7, 0] rfl ?_
                    exact ih (j + 1) (sI σ1 717 20 0) (by omega) (by omega) (hI.c (b := false) (by first | exact c_279.symm | exact c_276.symm | (simp only [Bool.or_eq_false_iff] at *; simp_all)))
                · exfalso; first | omega | (obtain ⟨x1, x2⟩ := hw2 (by omega); omega) | (obtain ⟨x1, x2⟩ := hw3 (by omega); omega)
            · refine px_iload dx_Mo_flow_222 rfl ?_
              refine px_bipush (v := 6) dx_Mo_flow_224 rfl ?_
              refine px_icmp_neN (a := mrg fr (T p) N j) (b := 6) dx_Mo_flow_226 (by first | omega | exact Nat.lt_of_le_of_lt (hM6 _) (by decide) | (have := hM6 j; omega) | (have := hM6 (j - 1); omega) | (have := hM6 (j + 1); omega)) (by first | omega | exact Nat.lt_of_le_of_lt (hM6 _) (by decide) | (have := hM6 j; omega) | (have := hM6 (j - 1); omega) | (have := hM6 (j + 1); omega)) (fun c_226 => ?_) (fun c_226 => ?_)
              · refine px_iconst (v := 0) dx_Mo_flow_256 rfl ?_
                refine px_istore (lv' := [(7, .int (0)), (6, .int (nI (mrg fr (T p) N j))), (0, .ref (717)), (1, .int (nI (m))), (2, .int (nI (p))), (3, .int (nI (10 * (40 * m + p)))), (4, .int (b2i (fr))), (5, .int (nI (j)))]) dx_Mo_flow_257 (by decide) rfl ?_
                refine px_iload dx_Mo_flow_259 rfl ?_
                refine px_if_eq dx_Mo_flow_261 (fun _ => ?_) (fun q => absurd (by decide) q)
                refine px_aload_n dx_Mo_flow_274 rfl ?_
                refine px_aload_n dx_Mo_flow_275 rfl ?_
                refine px_getI dx_Mo_flow_276 fl_Mo_274 rfl (by decide) rfl ?_
                refine px_eqi (y := b2i ((ch || fr) || chR fr (T p) N 10)) hC ?_
                refine px_if_neB dx_Mo_flow_279 (fun c_279 => ?_) (fun c_279 => ?_)
                · refine px_iconst (v := 1) dx_Mo_flow_287 rfl ?_
                  refine px_goto dx_Mo_flow_288 ?_
                  refine px_putZ dx_Mo_flow_292 fl_Mo_274 rfl (by decide) rfl (by decide) ?_
                  refine px_iinc (v := (nI (j + 1))) (lv' := [(5, .int (nI (j + 1))), (7, .int (0)), (6, .int (nI (mrg fr (T p) N j))), (0, .ref (717)), (1, .int (nI (m))), (2, .int (nI (p))), (3, .int (nI (10 * (40 * m + p)))), (4, .int (b2i (fr)))]) dx_Mo_flow_295 rfl (nI_1 _) (by decide) rfl ?_
                  refine px_goto dx_Mo_flow_298 ?_
                  refine px_sub [3, 4, 5, 6, 7, 0] rfl ?_
                  exact ih (j + 1) (sI σ1 717 20 1) (by omega) (by omega) (hI.c (b := true) (by first | exact c_279.symm | exact c_276.symm | (simp only [Bool.or_eq_false_iff] at *; simp_all)))
                · refine px_iload dx_Mo_flow_282 rfl ?_
                  refine px_if_eq dx_Mo_flow_284 (fun _ => ?_) (fun q => absurd (by decide) q)
                  refine px_iconst (v := 0) dx_Mo_flow_291 rfl ?_
                  refine px_putZ dx_Mo_flow_292 fl_Mo_274 rfl (by decide) rfl (by decide) ?_
                  refine px_iinc (v := (nI (j + 1))) (lv' := [(5, .int (nI (j + 1))), (7, .int (0)), (6, .int (nI (mrg fr (T p) N j))), (0, .ref (717)), (1, .int (nI (m))), (2, .int (nI (p))), (3, .int (nI (10 * (40 * m + p)))), (4, .int (b2i (fr)))]) dx_Mo_flow_295 rfl (nI_1 _) (by decide) rfl ?_
                  refine px_goto dx_Mo_flow_298 ?_
                  refine px_sub [3, 4, 5, 6, 7, 0] rfl ?_
                  exact ih (j + 1) (sI σ1 717 20 0) (by omega) (by omega) (hI.c (b := false) (by first | exact c_279.symm | exact c_276.symm | (simp only [Bool.or_eq_false_iff] at *; simp_all)))
              · refine px_iload dx_Mo_flow_229 rfl ?_
                refine px_if_eqN (a := j) dx_Mo_flow_231 (by first | omega | exact Nat.lt_of_le_of_lt (hM6 _) (by decide) | (have := hM6 j; omega) | (have := hM6 (j - 1); omega) | (have := hM6 (j + 1); omega)) (fun c_231 => ?_) (fun c_231 => ?_)
                · exfalso; first | omega | (obtain ⟨x1, x2⟩ := hw2 (by omega); omega) | (obtain ⟨x1, x2⟩ := hw3 (by omega); omega)
                · refine px_aload_n dx_Mo_flow_234 rfl ?_
                  refine px_getR (r := 731) dx_Mo_flow_235 fl_Mo_54 rfl (by decide) rfl (hM 18) ?_
                  refine px_iload_n dx_Mo_flow_238 rfl ?_
                  refine px_iload dx_Mo_flow_239 rfl ?_
                  refine px_iaddN (a := 10 * (40 * m + p)) (b := j) dx_Mo_flow_241 ?_
                  refine px_iconst (v := 1) dx_Mo_flow_242 rfl ?_
                  refine px_isubN (a := (10 * (40 * m + p)) + j) (b := 1) dx_Mo_flow_243 (by omega) ?_
                  refine px_ialdN (j := ((10 * (40 * m + p)) + j) - 1) dx_Mo_flow_244 rfl (by decide) (by omega) ?_
                  refine px_eqi (y := nI (mrg fr (T p) N (j - 1))) (hTj2 (by omega)) ?_
                  refine px_iload dx_Mo_flow_245 rfl ?_
                  refine px_iconst (v := 1) dx_Mo_flow_247 rfl ?_
                  refine px_isubN (a := mrg fr (T p) N j) (b := 1) dx_Mo_flow_248 (by omega) ?_
                  refine px_icmp_eqN (a := mrg fr (T p) N (j - 1)) (b := (mrg fr (T p) N j) - 1) dx_Mo_flow_249 (by first | omega | exact Nat.lt_of_le_of_lt (hM6 _) (by decide) | (have := hM6 j; omega) | (have := hM6 (j - 1); omega) | (have := hM6 (j + 1); omega)) (by first | omega | exact Nat.lt_of_le_of_lt (hM6 _) (by decide) | (have := hM6 j; omega) | (have := hM6 (j - 1); omega) | (have := hM6 (j + 1); omega)) (fun c_249 => ?_) (fun c_249 => ?_)
                  · refine px_iconst (v := 0) dx_Mo_flow_256 rfl ?_
                    refine px_istore (lv' := [(7, .int (0)), (6, .int (nI (mrg fr (T p) N j))), (0, .ref (717)), (1, .int (nI (m))), (2, .int (nI (p))), (3, .int (nI (10 * (40 * m + p)))), (4, .int (b2i (fr))), (5, .int (nI (j)))]) dx_Mo_flow_257 (by decide) rfl ?_
                    refine px_iload dx_Mo_flow_259 rfl ?_
                    refine px_if_eq dx_Mo_flow_261 (fun _ => ?_) (fun q => absurd (by decide) q)
                    refine px_aload_n dx_Mo_flow_274 rfl ?_
                    refine px_aload_n dx_Mo_flow_275 rfl ?_
                    refine px_getI dx_Mo_flow_276 fl_Mo_274 rfl (by decide) rfl ?_
                    refine px_eqi (y := b2i ((ch || fr) || chR fr (T p) N 10)) hC ?_
                    refine px_if_neB dx_Mo_flow_279 (fun c_279 => ?_) (fun c_279 => ?_)
                    · refine px_iconst (v := 1) dx_Mo_flow_287 rfl ?_
                      refine px_goto dx_Mo_flow_288 ?_
                      refine px_putZ dx_Mo_flow_292 fl_Mo_274 rfl (by decide) rfl (by decide) ?_
                      refine px_iinc (v := (nI (j + 1))) (lv' := [(5, .int (nI (j + 1))), (7, .int (0)), (6, .int (nI (mrg fr (T p) N j))), (0, .ref (717)), (1, .int (nI (m))), (2, .int (nI (p))), (3, .int (nI (10 * (40 * m + p)))), (4, .int (b2i (fr)))]) dx_Mo_flow_295 rfl (nI_1 _) (by decide) rfl ?_
                      refine px_goto dx_Mo_flow_298 ?_
                      refine px_sub [3, 4, 5, 6, 7, 0] rfl ?_
                      exact ih (j + 1) (sI σ1 717 20 1) (by omega) (by omega) (hI.c (b := true) (by first | exact c_279.symm | exact c_276.symm | (simp only [Bool.or_eq_false_iff] at *; simp_all)))
                    · refine px_iload dx_Mo_flow_282 rfl ?_
                      refine px_if_eq dx_Mo_flow_284 (fun _ => ?_) (fun q => absurd (by decide) q)
                      refine px_iconst (v := 0) dx_Mo_flow_291 rfl ?_
                      refine px_putZ dx_Mo_flow_292 fl_Mo_274 rfl (by decide) rfl (by decide) ?_
                      refine px_iinc (v := (nI (j + 1))) (lv' := [(5, .int (nI (j + 1))), (7, .int (0)), (6, .int (nI (mrg fr (T p) N j))), (0, .ref (717)), (1, .int (nI (m))), (2, .int (nI (p))), (3, .int (nI (10 * (40 * m + p)))), (4, .int (b2i (fr)))]) dx_Mo_flow_295 rfl (nI_1 _) (by decide) rfl ?_
                      refine px_goto dx_Mo_flow_298 ?_
                      refine px_sub [3, 4, 5, 6, 7, 0] rfl ?_
                      exact ih (j + 1) (sI σ1 717 20 0) (by omega) (by omega) (hI.c (b := false) (by first | exact c_279.symm | exact c_276.symm | (simp only [Bool.or_eq_false_iff] at *; simp_all)))
                  · exfalso; first | omega | (obtain ⟨x1, x2⟩ := hw2 (by omega); omega) | (obtain ⟨x1, x2⟩ := hw3 (by omega); omega)
      · refine px_iload dx_Mo_flow_185 rfl ?_
        refine px_iconst (v := 5) dx_Mo_flow_187 rfl ?_
        refine px_icmp_neN (a := mrg fr (T p) N j) (b := 5) dx_Mo_flow_188 (by first | omega | exact Nat.lt_of_le_of_lt (hM6 _) (by decide) | (have := hM6 j; omega) | (have := hM6 (j - 1); omega) | (have := hM6 (j + 1); omega)) (by first | omega | exact Nat.lt_of_le_of_lt (hM6 _) (by decide) | (have := hM6 j; omega) | (have := hM6 (j - 1); omega) | (have := hM6 (j + 1); omega)) (fun c_188 => ?_) (fun c_188 => ?_)
        · refine px_iload dx_Mo_flow_216 rfl ?_
          refine px_iconst (v := 4) dx_Mo_flow_218 rfl ?_
          refine px_icmp_eqN (a := mrg fr (T p) N j) (b := 4) dx_Mo_flow_219 (by first | omega | exact Nat.lt_of_le_of_lt (hM6 _) (by decide) | (have := hM6 j; omega) | (have := hM6 (j - 1); omega) | (have := hM6 (j + 1); omega)) (by first | omega | exact Nat.lt_of_le_of_lt (hM6 _) (by decide) | (have := hM6 j; omega) | (have := hM6 (j - 1); omega) | (have := hM6 (j + 1); omega)) (fun c_219 => ?_) (fun c_219 => ?_)
          · refine px_iload dx_Mo_flow_229 rfl ?_
            refine px_if_eqN (a := j) dx_Mo_flow_231 (by first | omega | exact Nat.lt_of_le_of_lt (hM6 _) (by decide) | (have := hM6 j; omega) | (have := hM6 (j - 1); omega) | (have := hM6 (j + 1); omega)) (fun c_231 => ?_) (fun c_231 => ?_)
            · exfalso; first | omega | (obtain ⟨x1, x2⟩ := hw2 (by omega); omega) | (obtain ⟨x1, x2⟩ := hw3 (by omega); omega)
            · refine px_aload_n dx_Mo_flow_234 rfl ?_
              refine px_getR (r := 731) dx_Mo_flow_235 fl_Mo_54 rfl (by decide) rfl (hM 18) ?_
              refine px_iload_n dx_Mo_flow_238 rfl ?_
              refine px_iload dx_Mo_flow_239 rfl ?_
              refine px_iaddN (a := 10 * (40 * m + p)) (b := j) dx_Mo_flow_241 ?_
              refine px_iconst (v := 1) dx_Mo_flow_242 rfl ?_
              refine px_isubN (a := (10 * (40 * m + p)) + j) (b := 1) dx_Mo_flow_243 (by omega) ?_
              refine px_ialdN (j := ((10 * (40 * m + p)) + j) - 1) dx_Mo_flow_244 rfl (by decide) (by omega) ?_
              refine px_eqi (y := nI (mrg fr (T p) N (j - 1))) (hTj2 (by omega)) ?_
              refine px_iload dx_Mo_flow_245 rfl ?_
              refine px_iconst (v := 1) dx_Mo_flow_247 rfl ?_
              refine px_isubN (a := mrg fr (T p) N j) (b := 1) dx_Mo_flow_248 (by omega) ?_
              refine px_icmp_eqN (a := mrg fr (T p) N (j - 1)) (b := (mrg fr (T p) N j) - 1) dx_Mo_flow_249 (by first | omega | exact Nat.lt_of_le_of_lt (hM6 _) (by decide) | (have := hM6 j; omega) | (have := hM6 (j - 1); omega) | (have := hM6 (j + 1); omega)) (by first | omega | exact Nat.lt_of_le_of_lt (hM6 _) (by decide) | (have := hM6 j; omega) | (have := hM6 (j - 1); omega) | (have := hM6 (j + 1); omega)) (fun c_249 => ?_) (fun c_249 => ?_)
              · refine px_iconst (v := 0) dx_Mo_flow_256 rfl ?_
                refine px_istore (lv' := [(7, .int (0)), (6, .int (nI (mrg fr (T p) N j))), (0, .ref (717)), (1, .int (nI (m))), (2, .int (nI (p))), (3, .int (nI (10 * (40 * m + p)))), (4, .int (b2i (fr))), (5, .int (nI (j)))]) dx_Mo_flow_257 (by decide) rfl ?_
                refine px_iload dx_Mo_flow_259 rfl ?_
                refine px_if_eq dx_Mo_flow_261 (fun _ => ?_) (fun q => absurd (by decide) q)
                refine px_aload_n dx_Mo_flow_274 rfl ?_
                refine px_aload_n dx_Mo_flow_275 rfl ?_
                refine px_getI dx_Mo_flow_276 fl_Mo_274 rfl (by decide) rfl ?_
                refine px_eqi (y := b2i ((ch || fr) || chR fr (T p) N 10)) hC ?_
                refine px_if_neB dx_Mo_flow_279 (fun c_279 => ?_) (fun c_279 => ?_)
                · refine px_iconst (v := 1) dx_Mo_flow_287 rfl ?_
                  refine px_goto dx_Mo_flow_288 ?_
                  refine px_putZ dx_Mo_flow_292 fl_Mo_274 rfl (by decide) rfl (by decide) ?_
                  refine px_iinc (v := (nI (j + 1))) (lv' := [(5, .int (nI (j + 1))), (7, .int (0)), (6, .int (nI (mrg fr (T p) N j))), (0, .ref (717)), (1, .int (nI (m))), (2, .int (nI (p))), (3, .int (nI (10 * (40 * m + p)))), (4, .int (b2i (fr)))]) dx_Mo_flow_295 rfl (nI_1 _) (by decide) rfl ?_
                  refine px_goto dx_Mo_flow_298 ?_
                  refine px_sub [3, 4, 5, 6, 7, 0] rfl ?_
                  exact ih (j + 1) (sI σ1 717 20 1) (by omega) (by omega) (hI.c (b := true) (by first | exact c_279.symm | exact c_276.symm | (simp only [Bool.or_eq_false_iff] at *; simp_all)))
                · refine px_iload dx_Mo_flow_282 rfl ?_
                  refine px_if_eq dx_Mo_flow_284 (fun _ => ?_) (fun q => absurd (by decide) q)
                  refine px_iconst (v := 0) dx_Mo_flow_291 rfl ?_
                  refine px_putZ dx_Mo_flow_292 fl_Mo_274 rfl (by decide) rfl (by decide) ?_
                  refine px_iinc (v := (nI (j + 1))) (lv' := [(5, .int (nI (j + 1))), (7, .int (0)), (6, .int (nI (mrg fr (T p) N j))), (0, .ref (717)), (1, .int (nI (m))), (2, .int (nI (p))), (3, .int (nI (10 * (40 * m + p)))), (4, .int (b2i (fr)))]) dx_Mo_flow_295 rfl (nI_1 _) (by decide) rfl ?_
                  refine px_goto dx_Mo_flow_298 ?_
                  refine px_sub [3, 4, 5, 6, 7, 0] rfl ?_
                  exact ih (j + 1) (sI σ1 717 20 0) (by omega) (by omega) (hI.c (b := false) (by first | exact c_279.symm | exact c_276.symm | (simp only [Bool.or_eq_false_iff] at *; simp_all)))
              · exfalso; first | omega | (obtain ⟨x1, x2⟩ := hw2 (by omega); omega) | (obtain ⟨x1, x2⟩ := hw3 (by omega); omega)
          · refine px_iload dx_Mo_flow_222 rfl ?_
            refine px_bipush (v := 6) dx_Mo_flow_224 rfl ?_
            refine px_icmp_neN (a := mrg fr (T p) N j) (b := 6) dx_Mo_flow_226 (by first | omega | exact Nat.lt_of_le_of_lt (hM6 _) (by decide) | (have := hM6 j; omega) | (have := hM6 (j - 1); omega) | (have := hM6 (j + 1); omega)) (by first | omega | exact Nat.lt_of_le_of_lt (hM6 _) (by decide) | (have := hM6 j; omega) | (have := hM6 (j - 1); omega) | (have := hM6 (j + 1); omega)) (fun c_226 => ?_) (fun c_226 => ?_)
            · refine px_iconst (v := 0) dx_Mo_flow_256 rfl ?_
              refine px_istore (lv' := [(7, .int (0)), (6, .int (nI (mrg fr (T p) N j))), (0, .ref (717)), (1, .int (nI (m))), (2, .int (nI (p))), (3, .int (nI (10 * (40 * m + p)))), (4, .int (b2i (fr))), (5, .int (nI (j)))]) dx_Mo_flow_257 (by decide) rfl ?_
              refine px_iload dx_Mo_flow_259 rfl ?_
              refine px_if_eq dx_Mo_flow_261 (fun _ => ?_) (fun q => absurd (by decide) q)
              refine px_aload_n dx_Mo_flow_274 rfl ?_
              refine px_aload_n dx_Mo_flow_275 rfl ?_
              refine px_getI dx_Mo_flow_276 fl_Mo_274 rfl (by decide) rfl ?_
              refine px_eqi (y := b2i ((ch || fr) || chR fr (T p) N 10)) hC ?_
              refine px_if_neB dx_Mo_flow_279 (fun c_279 => ?_) (fun c_279 => ?_)
              · refine px_iconst (v := 1) dx_Mo_flow_287 rfl ?_
                refine px_goto dx_Mo_flow_288 ?_
                refine px_putZ dx_Mo_flow_292 fl_Mo_274 rfl (by decide) rfl (by decide) ?_
                refine px_iinc (v := (nI (j + 1))) (lv' := [(5, .int (nI (j + 1))), (7, .int (0)), (6, .int (nI (mrg fr (T p) N j))), (0, .ref (717)), (1, .int (nI (m))), (2, .int (nI (p))), (3, .int (nI (10 * (40 * m + p)))), (4, .int (b2i (fr)))]) dx_Mo_flow_295 rfl (nI_1 _) (by decide) rfl ?_
                refine px_goto dx_Mo_flow_298 ?_
                refine px_sub [3, 4, 5, 6, 7, 0] rfl ?_
                exact ih (j + 1) (sI σ1 717 20 1) (by omega) (by omega) (hI.c (b := true) (by first | exact c_279.symm | exact c_276.symm | (simp only [Bool.or_eq_false_iff] at *; simp_all)))
              · refine px_iload dx_Mo_flow_282 rfl ?_
                refine px_if_eq dx_Mo_flow_284 (fun _ => ?_) (fun q => absurd (by decide) q)
                refine px_iconst (v := 0) dx_Mo_flow_291 rfl ?_
                refine px_putZ dx_Mo_flow_292 fl_Mo_274 rfl (by decide) rfl (by decide) ?_
                refine px_iinc (v := (nI (j + 1))) (lv' := [(5, .int (nI (j + 1))), (7, .int (0)), (6, .int (nI (mrg fr (T p) N j))), (0, .ref (717)), (1, .int (nI (m))), (2, .int (nI (p))), (3, .int (nI (10 * (40 * m + p)))), (4, .int (b2i (fr)))]) dx_Mo_flow_295 rfl (nI_1 _) (by decide) rfl ?_
                refine px_goto dx_Mo_flow_298 ?_
                refine px_sub [3, 4, 5, 6, 7, 0] rfl ?_
                exact ih (j + 1) (sI σ1 717 20 0) (by omega) (by omega) (hI.c (b := false) (by first | exact c_279.symm | exact c_276.symm | (simp only [Bool.or_eq_false_iff] at *; simp_all)))
            · refine px_iload dx_Mo_flow_229 rfl ?_
              refine px_if_eqN (a := j) dx_Mo_flow_231 (by first | omega | exact Nat.lt_of_le_of_lt (hM6 _) (by decide) | (have := hM6 j; omega) | (have := hM6 (j - 1); omega) | (have := hM6 (j + 1); omega)) (fun c_231 => ?_) (fun c_231 => ?_)
              · exfalso; first | omega | (obtain ⟨x1, x2⟩ := hw2 (by omega); omega) | (obtain ⟨x1, x2⟩ := hw3 (by omega); omega)
              · refine px_aload_n dx_Mo_flow_234 rfl ?_
                refine px_getR (r := 731) dx_Mo_flow_235 fl_Mo_54 rfl (by decide) rfl (hM 18) ?_
                refine px_iload_n dx_Mo_flow_238 rfl ?_
                refine px_iload dx_Mo_flow_239 rfl ?_
                refine px_iaddN (a := 10 * (40 * m + p)) (b := j) dx_Mo_flow_241 ?_
                refine px_iconst (v := 1) dx_Mo_flow_242 rfl ?_
                refine px_isubN (a := (10 * (40 * m + p)) + j) (b := 1) dx_Mo_flow_243 (by omega) ?_
                refine px_ialdN (j := ((10 * (40 * m + p)) + j) - 1) dx_Mo_flow_244 rfl (by decide) (by omega) ?_
                refine px_eqi (y := nI (mrg fr (T p) N (j - 1))) (hTj2 (by omega)) ?_
                refine px_iload dx_Mo_flow_245 rfl ?_
                refine px_iconst (v := 1) dx_Mo_flow_247 rfl ?_
                refine px_isubN (a := mrg fr (T p) N j) (b := 1) dx_Mo_flow_248 (by omega) ?_
                refine px_icmp_eqN (a := mrg fr (T p) N (j - 1)) (b := (mrg fr (T p) N j) - 1) dx_Mo_flow_249 (by first | omega | exact Nat.lt_of_le_of_lt (hM6 _) (by decide) | (have := hM6 j; omega) | (have := hM6 (j - 1); omega) | (have := hM6 (j + 1); omega)) (by first | omega | exact Nat.lt_of_le_of_lt (hM6 _) (by decide) | (have := hM6 j; omega) | (have := hM6 (j - 1); omega) | (have := hM6 (j + 1); omega)) (fun c_249 => ?_) (fun c_249 => ?_)
                · refine px_iconst (v := 0) dx_Mo_flow_256 rfl ?_
                  refine px_istore (lv' := [(7, .int (0)), (6, .int (nI (mrg fr (T p) N j))), (0, .ref (717)), (1, .int (nI (m))), (2, .int (nI (p))), (3, .int (nI (10 * (40 * m + p)))), (4, .int (b2i (fr))), (5, .int (nI (j)))]) dx_Mo_flow_257 (by decide) rfl ?_
                  refine px_iload dx_Mo_flow_259 rfl ?_
                  refine px_if_eq dx_Mo_flow_261 (fun _ => ?_) (fun q => absurd (by decide) q)
                  refine px_aload_n dx_Mo_flow_274 rfl ?_
                  refine px_aload_n dx_Mo_flow_275 rfl ?_
                  refine px_getI dx_Mo_flow_276 fl_Mo_274 rfl (by decide) rfl ?_
                  refine px_eqi (y := b2i ((ch || fr) || chR fr (T p) N 10)) hC ?_
                  refine px_if_neB dx_Mo_flow_279 (fun c_279 => ?_) (fun c_279 => ?_)
                  · refine px_iconst (v := 1) dx_Mo_flow_287 rfl ?_
                    refine px_goto dx_Mo_flow_288 ?_
                    refine px_putZ dx_Mo_flow_292 fl_Mo_274 rfl (by decide) rfl (by decide) ?_
                    refine px_iinc (v := (nI (j + 1))) (lv' := [(5, .int (nI (j + 1))), (7, .int (0)), (6, .int (nI (mrg fr (T p) N j))), (0, .ref (717)), (1, .int (nI (m))), (2, .int (nI (p))), (3, .int (nI (10 * (40 * m + p)))), (4, .int (b2i (fr)))]) dx_Mo_flow_295 rfl (nI_1 _) (by decide) rfl ?_
                    refine px_goto dx_Mo_flow_298 ?_
                    refine px_sub [3, 4, 5, 6, 7, 0] rfl ?_
                    exact ih (j + 1) (sI σ1 717 20 1) (by omega) (by omega) (hI.c (b := true) (by first | exact c_279.symm | exact c_276.symm | (simp only [Bool.or_eq_false_iff] at *; simp_all)))
                  · refine px_iload dx_Mo_flow_282 rfl ?_
                    refine px_if_eq dx_Mo_flow_284 (fun _ => ?_) (fun q => absurd (by decide) q)
                    refine px_iconst (v := 0) dx_Mo_flow_291 rfl ?_
                    refine px_putZ dx_Mo_flow_292 fl_Mo_274 rfl (by decide) rfl (by decide) ?_
                    refine px_iinc (v := (nI (j + 1))) (lv' := [(5, .int (nI (j + 1))), (7, .int (0)), (6, .int (nI (mrg fr (T p) N j))), (0, .ref (717)), (1, .int (nI (m))), (2, .int (nI (p))), (3, .int (nI (10 * (40 * m + p)))), (4, .int (b2i (fr)))]) dx_Mo_flow_295 rfl (nI_1 _) (by decide) rfl ?_
                    refine px_goto dx_Mo_flow_298 ?_
                    refine px_sub [3, 4, 5, 6, 7, 0] rfl ?_
                    exact ih (j + 1) (sI σ1 717 20 0) (by omega) (by omega) (hI.c (b := false) (by first | exact c_279.symm | exact c_276.symm | (simp only [Bool.or_eq_false_iff] at *; simp_all)))
                · exfalso; first | omega | (obtain ⟨x1, x2⟩ := hw2 (by omega); omega) | (obtain ⟨x1, x2⟩ := hw3 (by omega); omega)
        · refine px_iload dx_Mo_flow_191 rfl ?_
          refine px_bipush (v := 9) dx_Mo_flow_193 rfl ?_
          refine px_icmp_eqN (a := j) (b := 9) dx_Mo_flow_195 (by first | omega | exact Nat.lt_of_le_of_lt (hM6 _) (by decide) | (have := hM6 j; omega) | (have := hM6 (j - 1); omega) | (have := hM6 (j + 1); omega)) (by first | omega | exact Nat.lt_of_le_of_lt (hM6 _) (by decide) | (have := hM6 j; omega) | (have := hM6 (j - 1); omega) | (have := hM6 (j + 1); omega)) (fun c_195 => ?_) (fun c_195 => ?_)
          · exfalso; first | omega | (obtain ⟨x1, x2⟩ := hw2 (by omega); omega) | (obtain ⟨x1, x2⟩ := hw3 (by omega); omega)
          · refine px_aload_n dx_Mo_flow_198 rfl ?_
            refine px_getR (r := 731) dx_Mo_flow_199 fl_Mo_54 rfl (by decide) rfl (hM 18) ?_
            refine px_iload_n dx_Mo_flow_202 rfl ?_
            refine px_iload dx_Mo_flow_203 rfl ?_
            refine px_iaddN (a := 10 * (40 * m + p)) (b := j) dx_Mo_flow_205 ?_
            refine px_iconst (v := 1) dx_Mo_flow_206 rfl ?_
            refine px_iaddN (a := (10 * (40 * m + p)) + j) (b := 1) dx_Mo_flow_207 ?_
            refine px_ialdN (j := ((10 * (40 * m + p)) + j) + 1) dx_Mo_flow_208 rfl (by decide) (by omega) ?_
            refine px_eqi (y := nI (mrg fr (T p) N (j + 1))) (hTj1 (by omega)) ?_
            refine px_iload dx_Mo_flow_209 rfl ?_
            refine px_iconst (v := 1) dx_Mo_flow_211 rfl ?_
            refine px_iaddN (a := mrg fr (T p) N j) (b := 1) dx_Mo_flow_212 ?_
            refine px_icmp_neN (a := mrg fr (T p) N (j + 1)) (b := (mrg fr (T p) N j) + 1) dx_Mo_flow_213 (by first | omega | exact Nat.lt_of_le_of_lt (hM6 _) (by decide) | (have := hM6 j; omega) | (have := hM6 (j - 1); omega) | (have := hM6 (j + 1); omega)) (by first | omega | exact Nat.lt_of_le_of_lt (hM6 _) (by decide) | (have := hM6 j; omega) | (have := hM6 (j - 1); omega) | (have := hM6 (j + 1); omega)) (fun c_213 => ?_) (fun c_213 => ?_)
            · exfalso; first | omega | (obtain ⟨x1, x2⟩ := hw2 (by omega); omega) | (obtain ⟨x1, x2⟩ := hw3 (by omega); omega)
            · refine px_iload dx_Mo_flow_216 rfl ?_
              refine px_iconst (v := 4) dx_Mo_flow_218 rfl ?_
              refine px_icmp_eqN (a := mrg fr (T p) N j) (b := 4) dx_Mo_flow_219 (by first | omega | exact Nat.lt_of_le_of_lt (hM6 _) (by decide) | (have := hM6 j; omega) | (have := hM6 (j - 1); omega) | (have := hM6 (j + 1); omega)) (by first | omega | exact Nat.lt_of_le_of_lt (hM6 _) (by decide) | (have := hM6 j; omega) | (have := hM6 (j - 1); omega) | (have := hM6 (j + 1); omega)) (fun c_219 => ?_) (fun c_219 => ?_)
              · refine px_iload dx_Mo_flow_229 rfl ?_
                refine px_if_eqN (a := j) dx_Mo_flow_231 (by first | omega | exact Nat.lt_of_le_of_lt (hM6 _) (by decide) | (have := hM6 j; omega) | (have := hM6 (j - 1); omega) | (have := hM6 (j + 1); omega)) (fun c_231 => ?_) (fun c_231 => ?_)
                · exfalso; first | omega | (obtain ⟨x1, x2⟩ := hw2 (by omega); omega) | (obtain ⟨x1, x2⟩ := hw3 (by omega); omega)
                · refine px_aload_n dx_Mo_flow_234 rfl ?_
                  refine px_getR (r := 731) dx_Mo_flow_235 fl_Mo_54 rfl (by decide) rfl (hM 18) ?_
                  refine px_iload_n dx_Mo_flow_238 rfl ?_
                  refine px_iload dx_Mo_flow_239 rfl ?_
                  refine px_iaddN (a := 10 * (40 * m + p)) (b := j) dx_Mo_flow_241 ?_
                  refine px_iconst (v := 1) dx_Mo_flow_242 rfl ?_
                  refine px_isubN (a := (10 * (40 * m + p)) + j) (b := 1) dx_Mo_flow_243 (by omega) ?_
                  refine px_ialdN (j := ((10 * (40 * m + p)) + j) - 1) dx_Mo_flow_244 rfl (by decide) (by omega) ?_
                  refine px_eqi (y := nI (mrg fr (T p) N (j - 1))) (hTj2 (by omega)) ?_
                  refine px_iload dx_Mo_flow_245 rfl ?_
                  refine px_iconst (v := 1) dx_Mo_flow_247 rfl ?_
                  refine px_isubN (a := mrg fr (T p) N j) (b := 1) dx_Mo_flow_248 (by omega) ?_
                  refine px_icmp_eqN (a := mrg fr (T p) N (j - 1)) (b := (mrg fr (T p) N j) - 1) dx_Mo_flow_249 (by first | omega | exact Nat.lt_of_le_of_lt (hM6 _) (by decide) | (have := hM6 j; omega) | (have := hM6 (j - 1); omega) | (have := hM6 (j + 1); omega)) (by first | omega | exact Nat.lt_of_le_of_lt (hM6 _) (by decide) | (have := hM6 j; omega) | (have := hM6 (j - 1); omega) | (have := hM6 (j + 1); omega)) (fun c_249 => ?_) (fun c_249 => ?_)
                  · refine px_iconst (v := 0) dx_Mo_flow_256 rfl ?_
                    refine px_istore (lv' := [(7, .int (0)), (6, .int (nI (mrg fr (T p) N j))), (0, .ref (717)), (1, .int (nI (m))), (2, .int (nI (p))), (3, .int (nI (10 * (40 * m + p)))), (4, .int (b2i (fr))), (5, .int (nI (j)))]) dx_Mo_flow_257 (by decide) rfl ?_
                    refine px_iload dx_Mo_flow_259 rfl ?_
                    refine px_if_eq dx_Mo_flow_261 (fun _ => ?_) (fun q => absurd (by decide) q)
                    refine px_aload_n dx_Mo_flow_274 rfl ?_
                    refine px_aload_n dx_Mo_flow_275 rfl ?_
                    refine px_getI dx_Mo_flow_276 fl_Mo_274 rfl (by decide) rfl ?_
                    refine px_eqi (y := b2i ((ch || fr) || chR fr (T p) N 10)) hC ?_
                    refine px_if_neB dx_Mo_flow_279 (fun c_279 => ?_) (fun c_279 => ?_)
                    · refine px_iconst (v := 1) dx_Mo_flow_287 rfl ?_
                      refine px_goto dx_Mo_flow_288 ?_
                      refine px_putZ dx_Mo_flow_292 fl_Mo_274 rfl (by decide) rfl (by decide) ?_
                      refine px_iinc (v := (nI (j + 1))) (lv' := [(5, .int (nI (j + 1))), (7, .int (0)), (6, .int (nI (mrg fr (T p) N j))), (0, .ref (717)), (1, .int (nI (m))), (2, .int (nI (p))), (3, .int (nI (10 * (40 * m + p)))), (4, .int (b2i (fr)))]) dx_Mo_flow_295 rfl (nI_1 _) (by decide) rfl ?_
                      refine px_goto dx_Mo_flow_298 ?_
                      refine px_sub [3, 4, 5, 6, 7, 0] rfl ?_
                      exact ih (j + 1) (sI σ1 717 20 1) (by omega) (by omega) (hI.c (b := true) (by first | exact c_279.symm | exact c_276.symm | (simp only [Bool.or_eq_false_iff] at *; simp_all)))
                    · refine px_iload dx_Mo_flow_282 rfl ?_
                      refine px_if_eq dx_Mo_flow_284 (fun _ => ?_) (fun q => absurd (by decide) q)
                      refine px_iconst (v := 0) dx_Mo_flow_291 rfl ?_
                      refine px_putZ dx_Mo_flow_292 fl_Mo_274 rfl (by decide) rfl (by decide) ?_
                      refine px_iinc (v := (nI (j + 1))) (lv' := [(5, .int (nI (j + 1))), (7, .int (0)), (6, .int (nI (mrg fr (T p) N j))), (0, .ref (717)), (1, .int (nI (m))), (2, .int (nI (p))), (3, .int (nI (10 * (40 * m + p)))), (4, .int (b2i (fr)))]) dx_Mo_flow_295 rfl (nI_1 _) (by decide) rfl ?_
                      refine px_goto dx_Mo_flow_298 ?_
                      refine px_sub [3, 4, 5, 6, 7, 0] rfl ?_
                      exact ih (j + 1) (sI σ1 717 20 0) (by omega) (by omega) (hI.c (b := false) (by first | exact c_279.symm | exact c_276.symm | (simp only [Bool.or_eq_false_iff] at *; simp_all)))
                  · exfalso; first | omega | (obtain ⟨x1, x2⟩ := hw2 (by omega); omega) | (obtain ⟨x1, x2⟩ := hw3 (by omega); omega)
              · refine px_iload dx_Mo_flow_222 rfl ?_
                refine px_bipush (v := 6) dx_Mo_flow_224 rfl ?_
                refine px_icmp_neN (a := mrg fr (T p) N j) (b := 6) dx_Mo_flow_226 (by first | omega | exact Nat.lt_of_le_of_lt (hM6 _) (by decide) | (have := hM6 j; omega) | (have := hM6 (j - 1); omega) | (have := hM6 (j + 1); omega)) (by first | omega | exact Nat.lt_of_le_of_lt (hM6 _) (by decide) | (have := hM6 j; omega) | (have := hM6 (j - 1); omega) | (have := hM6 (j + 1); omega)) (fun c_226 => ?_) (fun c_226 => ?_)
                · refine px_iconst (v := 0) dx_Mo_flow_256 rfl ?_
                  refine px_istore (lv' := [(7, .int (0)), (6, .int (nI (mrg fr (T p) N j))), (0, .ref (717)), (1, .int (nI (m))), (2, .int (nI (p))), (3, .int (nI (10 * (40 * m + p)))), (4, .int (b2i (fr))), (5, .int (nI (j)))]) dx_Mo_flow_257 (by decide) rfl ?_
                  refine px_iload dx_Mo_flow_259 rfl ?_
                  refine px_if_eq dx_Mo_flow_261 (fun _ => ?_) (fun q => absurd (by decide) q)
                  refine px_aload_n dx_Mo_flow_274 rfl ?_
                  refine px_aload_n dx_Mo_flow_275 rfl ?_
                  refine px_getI dx_Mo_flow_276 fl_Mo_274 rfl (by decide) rfl ?_
                  refine px_eqi (y := b2i ((ch || fr) || chR fr (T p) N 10)) hC ?_
                  refine px_if_neB dx_Mo_flow_279 (fun c_279 => ?_) (fun c_279 => ?_)
                  · refine px_iconst (v := 1) dx_Mo_flow_287 rfl ?_
                    refine px_goto dx_Mo_flow_288 ?_
                    refine px_putZ dx_Mo_flow_292 fl_Mo_274 rfl (by decide) rfl (by decide) ?_
                    refine px_iinc (v := (nI (j + 1))) (lv' := [(5, .int (nI (j + 1))), (7, .int (0)), (6, .int (nI (mrg fr (T p) N j))), (0, .ref (717)), (1, .int (nI (m))), (2, .int (nI (p))), (3, .int (nI (10 * (40 * m + p)))), (4, .int (b2i (fr)))]) dx_Mo_flow_295 rfl (nI_1 _) (by decide) rfl ?_
                    refine px_goto dx_Mo_flow_298 ?_
                    refine px_sub [3, 4, 5, 6, 7, 0] rfl ?_
                    exact ih (j + 1) (sI σ1 717 20 1) (by omega) (by omega) (hI.c (b := true) (by first | exact c_279.symm | exact c_276.symm | (simp only [Bool.or_eq_false_iff] at *; simp_all)))
                  · refine px_iload dx_Mo_flow_282 rfl ?_
                    refine px_if_eq dx_Mo_flow_284 (fun _ => ?_) (fun q => absurd (by decide) q)
                    refine px_iconst (v := 0) dx_Mo_flow_291 rfl ?_
                    refine px_putZ dx_Mo_flow_292 fl_Mo_274 rfl (by decide) rfl (by decide) ?_
                    refine px_iinc (v := (nI (j + 1))) (lv' := [(5, .int (nI (j + 1))), (7, .int (0)), (6, .int (nI (mrg fr (T p) N j))), (0, .ref (717)), (1, .int (nI (m))), (2, .int (nI (p))), (3, .int (nI (10 * (40 * m + p)))), (4, .int (b2i (fr)))]) dx_Mo_flow_295 rfl (nI_1 _) (by decide) rfl ?_
                    refine px_goto dx_Mo_flow_298 ?_
                    refine px_sub [3, 4, 5, 6, 7, 0] rfl ?_
                    exact ih (j + 1) (sI σ1 717 20 0) (by omega) (by omega) (hI.c (b := false) (by first | exact c_279.symm | exact c_276.symm | (simp only [Bool.or_eq_false_iff] at *; simp_all)))
                · refine px_iload dx_Mo_flow_229 rfl ?_
                  refine px_if_eqN (a := j) dx_Mo_flow_231 (by first | omega | exact Nat.lt_of_le_of_lt (hM6 _) (by decide) | (have := hM6 j; omega) | (have := hM6 (j - 1); omega) | (have := hM6 (j + 1); omega)) (fun c_231 => ?_) (fun c_231 => ?_)
                  · exfalso; first | omega | (obtain ⟨x1, x2⟩ := hw2 (by omega); omega) | (obtain ⟨x1, x2⟩ := hw3 (by omega); omega)
                  · refine px_aload_n dx_Mo_flow_234 rfl ?_
                    refine px_getR (r := 731) dx_Mo_flow_235 fl_Mo_54 rfl (by decide) rfl (hM 18) ?_
                    refine px_iload_n dx_Mo_flow_238 rfl ?_
                    refine px_iload dx_Mo_flow_239 rfl ?_
                    refine px_iaddN (a := 10 * (40 * m + p)) (b := j) dx_Mo_flow_241 ?_
                    refine px_iconst (v := 1) dx_Mo_flow_242 rfl ?_
                    refine px_isubN (a := (10 * (40 * m + p)) + j) (b := 1) dx_Mo_flow_243 (by omega) ?_
                    refine px_ialdN (j := ((10 * (40 * m + p)) + j) - 1) dx_Mo_flow_244 rfl (by decide) (by omega) ?_
                    refine px_eqi (y := nI (mrg fr (T p) N (j - 1))) (hTj2 (by omega)) ?_
                    refine px_iload dx_Mo_flow_245 rfl ?_
                    refine px_iconst (v := 1) dx_Mo_flow_247 rfl ?_
                    refine px_isubN (a := mrg fr (T p) N j) (b := 1) dx_Mo_flow_248 (by omega) ?_
                    refine px_icmp_eqN (a := mrg fr (T p) N (j - 1)) (b := (mrg fr (T p) N j) - 1) dx_Mo_flow_249 (by first | omega | exact Nat.lt_of_le_of_lt (hM6 _) (by decide) | (have := hM6 j; omega) | (have := hM6 (j - 1); omega) | (have := hM6 (j + 1); omega)) (by first | omega | exact Nat.lt_of_le_of_lt (hM6 _) (by decide) | (have := hM6 j; omega) | (have := hM6 (j - 1); omega) | (have := hM6 (j + 1); omega)) (fun c_249 => ?_) (fun c_249 => ?_)
                    · refine px_iconst (v := 0) dx_Mo_flow_256 rfl ?_
                      refine px_istore (lv' := [(7, .int (0)), (6, .int (nI (mrg fr (T p) N j))), (0, .ref (717)), (1, .int (nI (m))), (2, .int (nI (p))), (3, .int (nI (10 * (40 * m + p)))), (4, .int (b2i (fr))), (5, .int (nI (j)))]) dx_Mo_flow_257 (by decide) rfl ?_
                      refine px_iload dx_Mo_flow_259 rfl ?_
                      refine px_if_eq dx_Mo_flow_261 (fun _ => ?_) (fun q => absurd (by decide) q)
                      refine px_aload_n dx_Mo_flow_274 rfl ?_
                      refine px_aload_n dx_Mo_flow_275 rfl ?_
                      refine px_getI dx_Mo_flow_276 fl_Mo_274 rfl (by decide) rfl ?_
                      refine px_eqi (y := b2i ((ch || fr) || chR fr (T p) N 10)) hC ?_
                      refine px_if_neB dx_Mo_flow_279 (fun c_279 => ?_) (fun c_279 => ?_)
                      · refine px_iconst (v := 1) dx_Mo_flow_287 rfl ?_
                        refine px_goto dx_Mo_flow_288 ?_
                        refine px_putZ dx_Mo_flow_292 fl_Mo_274 rfl (by decide) rfl (by decide) ?_
                        refine px_iinc (v := (nI (j + 1))) (lv' := [(5, .int (nI (j + 1))), (7, .int (0)), (6, .int (nI (mrg fr (T p) N j))), (0, .ref (717)), (1, .int (nI (m))), (2, .int (nI (p))), (3, .int (nI (10 * (40 * m + p)))), (4, .int (b2i (fr)))]) dx_Mo_flow_295 rfl (nI_1 _) (by decide) rfl ?_
                        refine px_goto dx_Mo_flow_298 ?_
                        refine px_sub [3, 4, 5, 6, 7, 0] rfl ?_
                        exact ih (j + 1) (sI σ1 717 20 1) (by omega) (by omega) (hI.c (b := true) (by first | exact c_279.symm | exact c_276.symm | (simp only [Bool.or_eq_false_iff] at *; simp_all)))
                      · refine px_iload dx_Mo_flow_282 rfl ?_
                        refine px_if_eq dx_Mo_flow_284 (fun _ => ?_) (fun q => absurd (by decide) q)
                        refine px_iconst (v := 0) dx_Mo_flow_291 rfl ?_
                        refine px_putZ dx_Mo_flow_292 fl_Mo_274 rfl (by decide) rfl (by decide) ?_
                        refine px_iinc (v := (nI (j + 1))) (lv' := [(5, .int (nI (j + 1))), (7, .int (0)), (6, .int (nI (mrg fr (T p) N j))), (0, .ref (717)), (1, .int (nI (m))), (2, .int (nI (p))), (3, .int (nI (10 * (40 * m + p)))), (4, .int (b2i (fr)))]) dx_Mo_flow_295 rfl (nI_1 _) (by decide) rfl ?_
                        refine px_goto dx_Mo_flow_298 ?_
                        refine px_sub [3, 4, 5, 6, 7, 0] rfl ?_
                        exact ih (j + 1) (sI σ1 717 20 0) (by omega) (by omega) (hI.c (b := false) (by first | exact c_279.symm | exact c_276.symm | (simp only [Bool.or_eq_false_iff] at *; simp_all)))
                    · exfalso; first | omega | (obtain ⟨x1, x2⟩ := hw2 (by omega); omega) | (obtain ⟨x1, x2⟩ := hw3 (by omega); omega)
set_option maxRecDepth 100000 in
set_option maxHeartbeats 1000000 in
theorem m_flow_l1 {l : Launch} {G : fr_G} {σ : fr_S} {m p : Nat} {T : Nat → Nat → Nat} {Rc : Nat → Bool} {N : Nat → Nat} {fr ch : Bool} (hm : m < 4) (hpl : p < 40) (hWN : WP N) (hWr : fr = false → WP (T p)) (hT6 : ∀ q r, T q r ≤ 6) (hN6 : ∀ r, N r ≤ 6) {Post : Option Value → fr_S → Prop} (hq : ∀ σ', FI σ σ' m p T Rc N fr ch 10 → Post none σ') : ∀ (d : Nat) (j : Nat) (σ1 : fr_S), 10 - j < d → j ≤ 10 → FI σ σ1 m p T Rc N fr ch j → PX l G yy_Mo_flow rm_Mo_flow (QR G false 742 0 0 Post) false 742 0 0 67 [(0, .ref (717)), (1, .int (nI (m))), (2, .int (nI (p))), (3, .int (nI (10 * (40 * m + p)))), (4, .int (b2i (fr))), (5, .int (nI (j)))] [] (σ1) := by
  intro d
  induction d with
  | zero => intro j σ1 hd; exact absurd hd (Nat.not_lt_zero _)
  | succ d ih =>
    intro j σ1 hd hj hI
    obtain ⟨hM, hT, hRC, hN, hC, hFO⟩ := id hI
    refine px_iload dx_Mo_flow_67 rfl ?_
    refine px_bipush (v := 10) dx_Mo_flow_69 rfl ?_
    refine px_icmp_geN (a := j) (b := 10) dx_Mo_flow_71 (by first | omega | (have := hT6 p j; omega) | (have := hN6 j; omega)) (by first | omega | (have := hT6 p j; omega) | (have := hN6 j; omega)) (fun c_71 => ?_) (fun c_71 => ?_)
    · refine px_iconst (v := 0) dx_Mo_flow_158 rfl ?_
      refine px_istore (lv' := [(5, .int (0)), (0, .ref (717)), (1, .int (nI (m))), (2, .int (nI (p))), (3, .int (nI (10 * (40 * m + p)))), (4, .int (b2i (fr)))]) dx_Mo_flow_159 (by decide) rfl ?_
      refine px_sub [1, 2, 3, 4, 5, 0] rfl ?_
      exact m_flow_l2 (σ := σ) hm hpl hWN hWr hT6 hN6 hq 11 0 σ1 (by omega) (by omega) (by (have e : j = 10 := by omega); subst e; exact hI)
    · have hTj : gI σ1 731 (10 * (40 * m + p) + j) = nI (T p j) := by (have e := hT p hpl j (by omega); rw [upT_s] at e; rw [e]; unfold cpR; rw [if_neg (Nat.lt_irrefl _)])
      refine px_iload dx_Mo_flow_74 rfl ?_
      refine px_if_neB dx_Mo_flow_76 (fun c_76 => ?_) (fun c_76 => ?_)
      · refine px_aload_n dx_Mo_flow_98 rfl ?_
        refine px_getR (r := 732) dx_Mo_flow_99 fl_Mo_57 rfl (by decide) rfl (hM 19) ?_
        refine px_iload dx_Mo_flow_102 rfl ?_
        refine px_ialdN (j := j) dx_Mo_flow_104 rfl (by decide) (by omega) ?_
        refine px_eqi (y := nI (N j)) (hN j (by omega)) ?_
        refine px_goto dx_Mo_flow_105 ?_
        refine px_istore (lv' := [(6, .int (nI (N j))), (0, .ref (717)), (1, .int (nI (m))), (2, .int (nI (p))), (3, .int (nI (10 * (40 * m + p)))), (4, .int (b2i (fr))), (5, .int (nI (j)))]) dx_Mo_flow_109 (by decide) rfl ?_
        refine px_aload_n dx_Mo_flow_111 rfl ?_
        refine px_aload_n dx_Mo_flow_112 rfl ?_
        refine px_getI dx_Mo_flow_113 fl_Mo_274 rfl (by decide) rfl ?_
        refine px_eqi (y := b2i ((ch || fr) || chR fr (T p) N j)) hC ?_
        refine px_if_neB dx_Mo_flow_116 (fun c_116 => ?_) (fun c_116 => ?_)
        · refine px_iconst (v := 1) dx_Mo_flow_133 rfl ?_
          refine px_goto dx_Mo_flow_134 ?_
          refine px_putZ dx_Mo_flow_138 fl_Mo_274 rfl (by decide) rfl (by decide) ?_
          refine px_aload_n dx_Mo_flow_141 rfl ?_
          refine px_getR (r := 731) dx_Mo_flow_142 fl_Mo_54 rfl (by decide) rfl (hM 18) ?_
          refine px_iload_n dx_Mo_flow_145 rfl ?_
          refine px_iload dx_Mo_flow_146 rfl ?_
          refine px_iaddN (a := 10 * (40 * m + p)) (b := j) dx_Mo_flow_148 ?_
          refine px_iload dx_Mo_flow_149 rfl ?_
          refine px_iastN (j := (10 * (40 * m + p)) + j) dx_Mo_flow_151 rfl (by decide) (by omega) ?_
          refine px_iinc (v := (nI (j + 1))) (lv' := [(5, .int (nI (j + 1))), (6, .int (nI (N j))), (0, .ref (717)), (1, .int (nI (m))), (2, .int (nI (p))), (3, .int (nI (10 * (40 * m + p)))), (4, .int (b2i (fr)))]) dx_Mo_flow_152 rfl (nI_1 _) (by decide) rfl ?_
          refine px_goto dx_Mo_flow_155 ?_
          refine px_sub [2, 3, 4, 5, 6, 0] rfl ?_
          exact ih (j + 1) (sI (sI σ1 717 20 1) 731 ((10 * (40 * m + p)) + j) (nI (N j))) (by omega) (by omega) (hI.s (t := N j) (b := true) hpl (by omega) (by clear ih hq hI hFO hRC hT hTj hC hN hN6 hT6 hWN hWr; unfold mrg; simp_all) (by (have ht : N j = mrg fr (T p) N j := by clear ih hq hI hFO hRC hT hTj hC hN hN6 hT6 hWN hWr; unfold mrg; simp_all); clear ih hq hI hFO hRC hT hTj hC hN hN6 hT6 hWN hWr; rw [ch_s ht]; generalize ((ch || fr) || chR fr (T p) N j) = X at *; clear ht; cases X <;> simp_all <;> omega))
        · refine px_iload dx_Mo_flow_119 rfl ?_
          refine px_aload_n dx_Mo_flow_121 rfl ?_
          refine px_getR (r := 731) dx_Mo_flow_122 fl_Mo_54 rfl (by decide) rfl (hM 18) ?_
          refine px_iload_n dx_Mo_flow_125 rfl ?_
          refine px_iload dx_Mo_flow_126 rfl ?_
          refine px_iaddN (a := 10 * (40 * m + p)) (b := j) dx_Mo_flow_128 ?_
          refine px_ialdN (j := (10 * (40 * m + p)) + j) dx_Mo_flow_129 rfl (by decide) (by omega) ?_
          refine px_eqi (y := nI (T p j)) hTj ?_
          refine px_icmp_eqN (a := N j) (b := T p j) dx_Mo_flow_130 (by first | omega | (have := hT6 p j; omega) | (have := hN6 j; omega)) (by first | omega | (have := hT6 p j; omega) | (have := hN6 j; omega)) (fun c_130 => ?_) (fun c_130 => ?_)
          · refine px_iconst (v := 0) dx_Mo_flow_137 rfl ?_
            refine px_putZ dx_Mo_flow_138 fl_Mo_274 rfl (by decide) rfl (by decide) ?_
            refine px_aload_n dx_Mo_flow_141 rfl ?_
            refine px_getR (r := 731) dx_Mo_flow_142 fl_Mo_54 rfl (by decide) rfl (hM 18) ?_
            refine px_iload_n dx_Mo_flow_145 rfl ?_
            refine px_iload dx_Mo_flow_146 rfl ?_
            refine px_iaddN (a := 10 * (40 * m + p)) (b := j) dx_Mo_flow_148 ?_
            refine px_iload dx_Mo_flow_149 rfl ?_
            refine px_iastN (j := (10 * (40 * m + p)) + j) dx_Mo_flow_151 rfl (by decide) (by omega) ?_
            refine px_iinc (v := (nI (j + 1))) (lv' := [(5, .int (nI (j + 1))), (6, .int (nI (N j))), (0, .ref (717)), (1, .int (nI (m))), (2, .int (nI (p))), (3, .int (nI (10 * (40 * m + p)))), (4, .int (b2i (fr)))]) dx_Mo_flow_152 rfl (nI_1 _) (by decide) rfl ?_
            refine px_goto dx_Mo_flow_155 ?_
            refine px_sub [2, 3, 4, 5, 6, 0] rfl ?_
            exact ih (j + 1) (sI (sI σ1 717 20 0) 731 ((10 * (40 * m + p)) + j) (nI (N j))) (by omega) (by omega) (hI.s (t := N j) (b := false) hpl (by omega) (by clear ih hq hI hFO hRC hT hTj hC hN hN6 hT6 hWN hWr; unfold mrg; simp_all) (by (have ht : N j = mrg fr (T p) N j := by clear ih hq hI hFO hRC hT hTj hC hN hN6 hT6 hWN hWr; unfold mrg; simp_all); clear ih hq hI hFO hRC hT hTj hC hN hN6 hT6 hWN hWr; rw [ch_s ht]; generalize ((ch || fr) || chR fr (T p) N j) = X at *; clear ht; cases X <;> simp_all <;> omega))
          · refine px_iconst (v := 1) dx_Mo_flow_133 rfl ?_
            refine px_goto dx_Mo_flow_134 ?_
            refine px_putZ dx_Mo_flow_138 fl_Mo_274 rfl (by decide) rfl (by decide) ?_
            refine px_aload_n dx_Mo_flow_141 rfl ?_
            refine px_getR (r := 731) dx_Mo_flow_142 fl_Mo_54 rfl (by decide) rfl (hM 18) ?_
            refine px_iload_n dx_Mo_flow_145 rfl ?_
            refine px_iload dx_Mo_flow_146 rfl ?_
            refine px_iaddN (a := 10 * (40 * m + p)) (b := j) dx_Mo_flow_148 ?_
            refine px_iload dx_Mo_flow_149 rfl ?_
            refine px_iastN (j := (10 * (40 * m + p)) + j) dx_Mo_flow_151 rfl (by decide) (by omega) ?_
            refine px_iinc (v := (nI (j + 1))) (lv' := [(5, .int (nI (j + 1))), (6, .int (nI (N j))), (0, .ref (717)), (1, .int (nI (m))), (2, .int (nI (p))), (3, .int (nI (10 * (40 * m + p)))), (4, .int (b2i (fr)))]) dx_Mo_flow_152 rfl (nI_1 _) (by decide) rfl ?_
            refine px_goto dx_Mo_flow_155 ?_
            refine px_sub [2, 3, 4, 5, 6, 0] rfl ?_
            exact ih (j + 1) (sI (sI σ1 717 20 1) 731 ((10 * (40 * m + p)) + j) (nI (N j))) (by omega) (by omega) (hI.s (t := N j) (b := true) hpl (by omega) (by clear ih hq hI hFO hRC hT hTj hC hN hN6 hT6 hWN hWr; unfold mrg; simp_all) (by (have ht : N j = mrg fr (T p) N j := by clear ih hq hI hFO hRC hT hTj hC hN hN6 hT6 hWN hWr; unfold mrg; simp_all); clear ih hq hI hFO hRC hT hTj hC hN hN6 hT6 hWN hWr; rw [ch_s ht]; generalize ((ch || fr) || chR fr (T p) N j) = X at *; clear ht; cases X <;> simp_all <;> omega))
      · refine px_aload_n dx_Mo_flow_79 rfl ?_
        refine px_getR (r := 731) dx_Mo_flow_80 fl_Mo_54 rfl (by decide) rfl (hM 18) ?_
        refine px_iload_n dx_Mo_flow_83 rfl ?_
        refine px_iload dx_Mo_flow_84 rfl ?_
        refine px_iaddN (a := 10 * (40 * m + p)) (b := j) dx_Mo_flow_86 ?_
        refine px_ialdN (j := (10 * (40 * m + p)) + j) dx_Mo_flow_87 rfl (by decide) (by omega) ?_
        refine px_eqi (y := nI (T p j)) hTj ?_
        refine px_aload_n dx_Mo_flow_88 rfl ?_
        refine px_getR (r := 732) dx_Mo_flow_89 fl_Mo_57 rfl (by decide) rfl (hM 19) ?_
        refine px_iload dx_Mo_flow_92 rfl ?_
        refine px_ialdN (j := j) dx_Mo_flow_94 rfl (by decide) (by omega) ?_
        refine px_eqi (y := nI (N j)) (hN j (by omega)) ?_
        refine px_icmp_neN (a := T p j) (b := N j) dx_Mo_flow_95 (by first | omega | (have := hT6 p j; omega) | (have := hN6 j; omega)) (by first | omega | (have := hT6 p j; omega) | (have := hN6 j; omega)) (fun c_95 => ?_) (fun c_95 => ?_)
        · refine px_iconst (v := 0) dx_Mo_flow_108 rfl ?_
          refine px_istore (lv' := [(6, .int (0)), (0, .ref (717)), (1, .int (nI (m))), (2, .int (nI (p))), (3, .int (nI (10 * (40 * m + p)))), (4, .int (b2i (fr))), (5, .int (nI (j)))]) dx_Mo_flow_109 (by decide) rfl ?_
          refine px_aload_n dx_Mo_flow_111 rfl ?_
          refine px_aload_n dx_Mo_flow_112 rfl ?_
          refine px_getI dx_Mo_flow_113 fl_Mo_274 rfl (by decide) rfl ?_
          refine px_eqi (y := b2i ((ch || fr) || chR fr (T p) N j)) hC ?_
          refine px_if_neB dx_Mo_flow_116 (fun c_116 => ?_) (fun c_116 => ?_)
          · refine px_iconst (v := 1) dx_Mo_flow_133 rfl ?_
            refine px_goto dx_Mo_flow_134 ?_
            refine px_putZ dx_Mo_flow_138 fl_Mo_274 rfl (by decide) rfl (by decide) ?_
            refine px_aload_n dx_Mo_flow_141 rfl ?_
            refine px_getR (r := 731) dx_Mo_flow_142 fl_Mo_54 rfl (by decide) rfl (hM 18) ?_
            refine px_iload_n dx_Mo_flow_145 rfl ?_
            refine px_iload dx_Mo_flow_146 rfl ?_
            refine px_iaddN (a := 10 * (40 * m + p)) (b := j) dx_Mo_flow_148 ?_
            refine px_iload dx_Mo_flow_149 rfl ?_
            refine px_iastN (j := (10 * (40 * m + p)) + j) dx_Mo_flow_151 rfl (by decide) (by omega) ?_
            refine px_iinc (v := (nI (j + 1))) (lv' := [(5, .int (nI (j + 1))), (6, .int (0)), (0, .ref (717)), (1, .int (nI (m))), (2, .int (nI (p))), (3, .int (nI (10 * (40 * m + p)))), (4, .int (b2i (fr)))]) dx_Mo_flow_152 rfl (nI_1 _) (by decide) rfl ?_
            refine px_goto dx_Mo_flow_155 ?_
            refine px_sub [2, 3, 4, 5, 6, 0] rfl ?_
            exact ih (j + 1) (sI (sI σ1 717 20 1) 731 ((10 * (40 * m + p)) + j) 0) (by omega) (by omega) (hI.s (t := 0) (b := true) hpl (by omega) (by clear ih hq hI hFO hRC hT hTj hC hN hN6 hT6 hWN hWr; unfold mrg; simp_all) (by (have ht : 0 = mrg fr (T p) N j := by clear ih hq hI hFO hRC hT hTj hC hN hN6 hT6 hWN hWr; unfold mrg; simp_all); clear ih hq hI hFO hRC hT hTj hC hN hN6 hT6 hWN hWr; rw [ch_s ht]; generalize ((ch || fr) || chR fr (T p) N j) = X at *; clear ht; cases X <;> simp_all <;> omega))
          · refine px_iload dx_Mo_flow_119 rfl ?_
            refine px_aload_n dx_Mo_flow_121 rfl ?_
            refine px_getR (r := 731) dx_Mo_flow_122 fl_Mo_54 rfl (by decide) rfl (hM 18) ?_
            refine px_iload_n dx_Mo_flow_125 rfl ?_
            refine px_iload dx_Mo_flow_126 rfl ?_
            refine px_iaddN (a := 10 * (40 * m + p)) (b := j) dx_Mo_flow_128 ?_
            refine px_ialdN (j := (10 * (40 * m + p)) + j) dx_Mo_flow_129 rfl (by decide) (by omega) ?_
            refine px_eqi (y := nI (T p j)) hTj ?_
            refine px_icmp_eqN (a := 0) (b := T p j) dx_Mo_flow_130 (by first | omega | (have := hT6 p j; omega) | (have := hN6 j; omega)) (by first | omega | (have := hT6 p j; omega) | (have := hN6 j; omega)) (fun c_130 => ?_) (fun c_130 => ?_)
            · refine px_iconst (v := 0) dx_Mo_flow_137 rfl ?_
              refine px_putZ dx_Mo_flow_138 fl_Mo_274 rfl (by decide) rfl (by decide) ?_
              refine px_aload_n dx_Mo_flow_141 rfl ?_
              refine px_getR (r := 731) dx_Mo_flow_142 fl_Mo_54 rfl (by decide) rfl (hM 18) ?_
              refine px_iload_n dx_Mo_flow_145 rfl ?_
              refine px_iload dx_Mo_flow_146 rfl ?_
              refine px_iaddN (a := 10 * (40 * m + p)) (b := j) dx_Mo_flow_148 ?_
              refine px_iload dx_Mo_flow_149 rfl ?_
              refine px_iastN (j := (10 * (40 * m + p)) + j) dx_Mo_flow_151 rfl (by decide) (by omega) ?_
              refine px_iinc (v := (nI (j + 1))) (lv' := [(5, .int (nI (j + 1))), (6, .int (0)), (0, .ref (717)), (1, .int (nI (m))), (2, .int (nI (p))), (3, .int (nI (10 * (40 * m + p)))), (4, .int (b2i (fr)))]) dx_Mo_flow_152 rfl (nI_1 _) (by decide) rfl ?_
              refine px_goto dx_Mo_flow_155 ?_
              refine px_sub [2, 3, 4, 5, 6, 0] rfl ?_
              exact ih (j + 1) (sI (sI σ1 717 20 0) 731 ((10 * (40 * m + p)) + j) 0) (by omega) (by omega) (hI.s (t := 0) (b := false) hpl (by omega) (by clear ih hq hI hFO hRC hT hTj hC hN hN6 hT6 hWN hWr; unfold mrg; simp_all) (by (have ht : 0 = mrg fr (T p) N j := by clear ih hq hI hFO hRC hT hTj hC hN hN6 hT6 hWN hWr; unfold mrg; simp_all); clear ih hq hI hFO hRC hT hTj hC hN hN6 hT6 hWN hWr; rw [ch_s ht]; generalize ((ch || fr) || chR fr (T p) N j) = X at *; clear ht; cases X <;> simp_all <;> omega))
            · refine px_iconst (v := 1) dx_Mo_flow_133 rfl ?_
              refine px_goto dx_Mo_flow_134 ?_
              refine px_putZ dx_Mo_flow_138 fl_Mo_274 rfl (by decide) rfl (by decide) ?_
              refine px_aload_n dx_Mo_flow_141 rfl ?_
              refine px_getR (r := 731) dx_Mo_flow_142 fl_Mo_54 rfl (by decide) rfl (hM 18) ?_
              refine px_iload_n dx_Mo_flow_145 rfl ?_
              refine px_iload dx_Mo_flow_146 rfl ?_
              refine px_iaddN (a := 10 * (40 * m + p)) (b := j) dx_Mo_flow_148 ?_
              refine px_iload dx_Mo_flow_149 rfl ?_
              refine px_iastN (j := (10 * (40 * m + p)) + j) dx_Mo_flow_151 rfl (by decide) (by omega) ?_
              refine px_iinc (v := (nI (j + 1))) (lv' := [(5, .int (nI (j + 1))), (6, .int (0)), (0, .ref (717)), (1, .int (nI (m))), (2, .int (nI (p))), (3, .int (nI (10 * (40 * m + p)))), (4, .int (b2i (fr)))]) dx_Mo_flow_152 rfl (nI_1 _) (by decide) rfl ?_
              refine px_goto dx_Mo_flow_155 ?_
              refine px_sub [2, 3, 4, 5, 6, 0] rfl ?_
              exact ih (j + 1) (sI (sI σ1 717 20 1) 731 ((10 * (40 * m + p)) + j) 0) (by omega) (by omega) (hI.s (t := 0) (b := true) hpl (by omega) (by clear ih hq hI hFO hRC hT hTj hC hN hN6 hT6 hWN hWr; unfold mrg; simp_all) (by (have ht : 0 = mrg fr (T p) N j := by clear ih hq hI hFO hRC hT hTj hC hN hN6 hT6 hWN hWr; unfold mrg; simp_all); clear ih hq hI hFO hRC hT hTj hC hN hN6 hT6 hWN hWr; rw [ch_s ht]; generalize ((ch || fr) || chR fr (T p) N j) = X at *; clear ht; cases X <;> simp_all <;> omega))
        · refine px_aload_n dx_Mo_flow_98 rfl ?_
          refine px_getR (r := 732) dx_Mo_flow_99 fl_Mo_57 rfl (by decide) rfl (hM 19) ?_
          refine px_iload dx_Mo_flow_102 rfl ?_
          refine px_ialdN (j := j) dx_Mo_flow_104 rfl (by decide) (by omega) ?_
          refine px_eqi (y := nI (N j)) (hN j (by omega)) ?_
          refine px_goto dx_Mo_flow_105 ?_
          refine px_istore (lv' := [(6, .int (nI (N j))), (0, .ref (717)), (1, .int (nI (m))), (2, .int (nI (p))), (3, .int (nI (10 * (40 * m + p)))), (4, .int (b2i (fr))), (5, .int (nI (j)))]) dx_Mo_flow_109 (by decide) rfl ?_
          refine px_aload_n dx_Mo_flow_111 rfl ?_
          refine px_aload_n dx_Mo_flow_112 rfl ?_
          refine px_getI dx_Mo_flow_113 fl_Mo_274 rfl (by decide) rfl ?_
          refine px_eqi (y := b2i ((ch || fr) || chR fr (T p) N j)) hC ?_
          refine px_if_neB dx_Mo_flow_116 (fun c_116 => ?_) (fun c_116 => ?_)
          · refine px_iconst (v := 1) dx_Mo_flow_133 rfl ?_
            refine px_goto dx_Mo_flow_134 ?_
            refine px_putZ dx_Mo_flow_138 fl_Mo_274 rfl (by decide) rfl (by decide) ?_
            refine px_aload_n dx_Mo_flow_141 rfl ?_
            refine px_getR (r := 731) dx_Mo_flow_142 fl_Mo_54 rfl (by decide) rfl (hM 18) ?_
            refine px_iload_n dx_Mo_flow_145 rfl ?_
            refine px_iload dx_Mo_flow_146 rfl ?_
            refine px_iaddN (a := 10 * (40 * m + p)) (b := j) dx_Mo_flow_148 ?_
            refine px_iload dx_Mo_flow_149 rfl ?_
            refine px_iastN (j := (10 * (40 * m + p)) + j) dx_Mo_flow_151 rfl (by decide) (by omega) ?_
            refine px_iinc (v := (nI (j + 1))) (lv' := [(5, .int (nI (j + 1))), (6, .int (nI (N j))), (0, .ref (717)), (1, .int (nI (m))), (2, .int (nI (p))), (3, .int (nI (10 * (40 * m + p)))), (4, .int (b2i (fr)))]) dx_Mo_flow_152 rfl (nI_1 _) (by decide) rfl ?_
            refine px_goto dx_Mo_flow_155 ?_
            refine px_sub [2, 3, 4, 5, 6, 0] rfl ?_
            exact ih (j + 1) (sI (sI σ1 717 20 1) 731 ((10 * (40 * m + p)) + j) (nI (N j))) (by omega) (by omega) (hI.s (t := N j) (b := true) hpl (by omega) (by clear ih hq hI hFO hRC hT hTj hC hN hN6 hT6 hWN hWr; unfold mrg; simp_all) (by (have ht : N j = mrg fr (T p) N j := by clear ih hq hI hFO hRC hT hTj hC hN hN6 hT6 hWN hWr; unfold mrg; simp_all); clear ih hq hI hFO hRC hT hTj hC hN hN6 hT6 hWN hWr; rw [ch_s ht]; generalize ((ch || fr) || chR fr (T p) N j) = X at *; clear ht; cases X <;> simp_all <;> omega))
          · refine px_iload dx_Mo_flow_119 rfl ?_
            refine px_aload_n dx_Mo_flow_121 rfl ?_
            refine px_getR (r := 731) dx_Mo_flow_122 fl_Mo_54 rfl (by decide) rfl (hM 18) ?_
            refine px_iload_n dx_Mo_flow_125 rfl ?_
            refine px_iload dx_Mo_flow_126 rfl ?_
            refine px_iaddN (a := 10 * (40 * m + p)) (b := j) dx_Mo_flow_128 ?_
            refine px_ialdN (j := (10 * (40 * m + p)) + j) dx_Mo_flow_129 rfl (by decide) (by omega) ?_
            refine px_eqi (y := nI (T p j)) hTj ?_
            refine px_icmp_eqN (a := N j) (b := T p j) dx_Mo_flow_130 (by first | omega | (have := hT6 p j; omega) | (have := hN6 j; omega)) (by first | omega | (have := hT6 p j; omega) | (have := hN6 j; omega)) (fun c_130 => ?_) (fun c_130 => ?_)
            · refine px_iconst (v := 0) dx_Mo_flow_137 rfl ?_
              refine px_putZ dx_Mo_flow_138 fl_Mo_274 rfl (by decide) rfl (by decide) ?_
              refine px_aload_n dx_Mo_flow_141 rfl ?_
              refine px_getR (r := 731) dx_Mo_flow_142 fl_Mo_54 rfl (by decide) rfl (hM 18) ?_
              refine px_iload_n dx_Mo_flow_145 rfl ?_
              refine px_iload dx_Mo_flow_146 rfl ?_
              refine px_iaddN (a := 10 * (40 * m + p)) (b := j) dx_Mo_flow_148 ?_
              refine px_iload dx_Mo_flow_149 rfl ?_
              refine px_iastN (j := (10 * (40 * m + p)) + j) dx_Mo_flow_151 rfl (by decide) (by omega) ?_
              refine px_iinc (v := (nI (j + 1))) (lv' := [(5, .int (nI (j + 1))), (6, .int (nI (N j))), (0, .ref (717)), (1, .int (nI (m))), (2, .int (nI (p))), (3, .int (nI (10 * (40 * m + p)))), (4, .int (b2i (fr)))]) dx_Mo_flow_152 rfl (nI_1 _) (by decide) rfl ?_
              refine px_goto dx_Mo_flow_155 ?_
              refine px_sub [2, 3, 4, 5, 6, 0] rfl ?_
              exact ih (j + 1) (sI (sI σ1 717 20 0) 731 ((10 * (40 * m + p)) + j) (nI (N j))) (by omega) (by omega) (hI.s (t := N j) (b := false) hpl (by omega) (by clear ih hq hI hFO hRC hT hTj hC hN hN6 hT6 hWN hWr; unfold mrg; simp_all) (by (have ht : N j = mrg fr (T p) N j := by clear ih hq hI hFO hRC hT hTj hC hN hN6 hT6 hWN hWr; unfold mrg; simp_all); clear ih hq hI hFO hRC hT hTj hC hN hN6 hT6 hWN hWr; rw [ch_s ht]; generalize ((ch || fr) || chR fr (T p) N j) = X at *; clear ht; cases X <;> simp_all <;> omega))
            · refine px_iconst (v := 1) dx_Mo_flow_133 rfl ?_
              refine px_goto dx_Mo_flow_134 ?_
              refine px_putZ dx_Mo_flow_138 fl_Mo_274 rfl (by decide) rfl (by decide) ?_
              refine px_aload_n dx_Mo_flow_141 rfl ?_
              refine px_getR (r := 731) dx_Mo_flow_142 fl_Mo_54 rfl (by decide) rfl (hM 18) ?_
              refine px_iload_n dx_Mo_flow_145 rfl ?_
              refine px_iload dx_Mo_flow_146 rfl ?_
              refine px_iaddN (a := 10 * (40 * m + p)) (b := j) dx_Mo_flow_148 ?_
              refine px_iload dx_Mo_flow_149 rfl ?_
              refine px_iastN (j := (10 * (40 * m + p)) + j) dx_Mo_flow_151 rfl (by decide) (by omega) ?_
              refine px_iinc (v := (nI (j + 1))) (lv' := [(5, .int (nI (j + 1))), (6, .int (nI (N j))), (0, .ref (717)), (1, .int (nI (m))), (2, .int (nI (p))), (3, .int (nI (10 * (40 * m + p)))), (4, .int (b2i (fr)))]) dx_Mo_flow_152 rfl (nI_1 _) (by decide) rfl ?_
              refine px_goto dx_Mo_flow_155 ?_
              refine px_sub [2, 3, 4, 5, 6, 0] rfl ?_
              exact ih (j + 1) (sI (sI σ1 717 20 1) 731 ((10 * (40 * m + p)) + j) (nI (N j))) (by omega) (by omega) (hI.s (t := N j) (b := true) hpl (by omega) (by clear ih hq hI hFO hRC hT hTj hC hN hN6 hT6 hWN hWr; unfold mrg; simp_all) (by (have ht : N j = mrg fr (T p) N j := by clear ih hq hI hFO hRC hT hTj hC hN hN6 hT6 hWN hWr; unfold mrg; simp_all); clear ih hq hI hFO hRC hT hTj hC hN hN6 hT6 hWN hWr; rw [ch_s ht]; generalize ((ch || fr) || chR fr (T p) N j) = X at *; clear ht; cases X <;> simp_all <;> omega))
/-- what the verifier holds of a method: rows, which units are reached, whether something changed -/
abbrev VS := (Nat → Nat → Nat) × (Nat → Bool) × Bool
def VR (σ : fr_S) (m : Nat) (v : VS) : Prop := TY σ m v.1 ∧ RC σ m v.2.1 ∧ gI σ 717 20 = b2i v.2.2
/-- a way comes to unit p with the row N -/
def flS (v : VS) (p : Nat) (N : Nat → Nat) : VS := (upT v.1 p (cpR (mrg (!v.2.1 p) (v.1 p) N) (v.1 p) 10), upB v.2.1 p, (v.2.2 || !v.2.1 p) || chR (!v.2.1 p) (v.1 p) N 10)
theorem upT_id (T : Nat → Nat → Nat) (p : Nat) : upT T p (T p) = T := by
  funext q
  unfold upT
  by_cases e : q = p <;> simp [e]
theorem RC.up {σ : fr_S} {m p : Nat} {Rc : Nat → Bool} (hR : RC σ m Rc) : RC (sI σ 730 (40 * m + p) 1) m (upB Rc p) := fun q hq => if e : q = p then (by subst e; rw [gI_s]; simp [upB, b2i]) else (by rw [gI_n (Or.inr (by omega)), hR q hq]; simp [upB, e])

theorem RC.ag7 {σ : fr_S} {m : Nat} {Rc : Nat → Bool} {v : Int32} (hR : RC σ m Rc) : RC (sI σ 717 20 v) m Rc := fun q hq => by rw [gI_n (Or.inl (by decide))]; exact hR q hq

set_option maxRecDepth 100000 in
set_option maxHeartbeats 1000000 in
theorem m_flow {l : Launch} {G : fr_G} {σ : fr_S} {m p : Nat} {v : VS} {N : Nat → Nat} (hM : MR σ) (hV : VR σ m v) (hN : NW σ N) (hm : m < 4) (hpl : p < 40) (hWN : WP N) (hWr : v.2.1 p = true → WP (v.1 p)) (hT6 : ∀ q r, v.1 q r ≤ 6) (hN6 : ∀ r, N r ≤ 6) : CR l G yy_Mo_flow rm_Mo_flow [.ref (717), .int (nI (m)), .int (nI (p))] σ (fun r0 σ' => r0 = none ∧ MR σ' ∧ VR σ' m (flS v p N) ∧ NW σ' N ∧ FO σ σ' m) := by
  intro Post hp0
  show PX l G yy_Mo_flow rm_Mo_flow _ false 742 0 0 0 [(0, .ref (717)), (1, .int (nI (m))), (2, .int (nI (p)))] [] σ
  refine px_bipush (v := 10) dx_Mo_flow_0 rfl ?_
  refine px_bipush (v := 40) dx_Mo_flow_2 rfl ?_
  refine px_iload_n dx_Mo_flow_4 rfl ?_
  refine px_imulN (a := 40) (b := m) dx_Mo_flow_5 ?_
  refine px_iload_n dx_Mo_flow_6 rfl ?_
  refine px_iaddN (a := 40 * m) (b := p) dx_Mo_flow_7 ?_
  refine px_imulN (a := 10) (b := (40 * m) + p) dx_Mo_flow_8 ?_
  refine px_istore_n (lv' := [(3, .int (nI (10 * ((40 * m) + p)))), (0, .ref (717)), (1, .int (nI (m))), (2, .int (nI (p)))]) dx_Mo_flow_9 (by decide) rfl ?_
  refine px_aload_n dx_Mo_flow_10 rfl ?_
  refine px_getR (r := 730) dx_Mo_flow_11 fl_Mo_51 rfl (by decide) rfl (hM 17) ?_
  refine px_bipush (v := 40) dx_Mo_flow_14 rfl ?_
  refine px_iload_n dx_Mo_flow_16 rfl ?_
  refine px_imulN (a := 40) (b := m) dx_Mo_flow_17 ?_
  refine px_iload_n dx_Mo_flow_18 rfl ?_
  refine px_iaddN (a := 40 * m) (b := p) dx_Mo_flow_19 ?_
  refine px_zaldN (j := (40 * m) + p) dx_Mo_flow_20 rfl (by decide) (by omega) ?_
  refine px_eqi (y := b2i (v.2.1 p)) (hV.2.1 p hpl) ?_
  refine px_if_neB dx_Mo_flow_21 (fun c_21 => ?_) (fun c_21 => ?_)
  · refine px_iconst (v := 0) dx_Mo_flow_28 rfl ?_
    refine px_istore (lv' := [(4, .int (0)), (3, .int (nI (10 * ((40 * m) + p)))), (0, .ref (717)), (1, .int (nI (m))), (2, .int (nI (p)))]) dx_Mo_flow_29 (by decide) rfl ?_
    refine px_aload_n dx_Mo_flow_31 rfl ?_
    refine px_getR (r := 730) dx_Mo_flow_32 fl_Mo_51 rfl (by decide) rfl (hM 17) ?_
    refine px_bipush (v := 40) dx_Mo_flow_35 rfl ?_
    refine px_iload_n dx_Mo_flow_37 rfl ?_
    refine px_imulN (a := 40) (b := m) dx_Mo_flow_38 ?_
    refine px_iload_n dx_Mo_flow_39 rfl ?_
    refine px_iaddN (a := 40 * m) (b := p) dx_Mo_flow_40 ?_
    refine px_iconst (v := 1) dx_Mo_flow_41 rfl ?_
    refine px_zastN (j := (40 * m) + p) dx_Mo_flow_42 rfl (by decide) (by omega) (by decide) ?_
    refine px_aload_n dx_Mo_flow_43 rfl ?_
    refine px_aload_n dx_Mo_flow_44 rfl ?_
    refine px_getI dx_Mo_flow_45 fl_Mo_274 rfl (by decide) rfl ?_
    refine px_eqi (y := b2i (v.2.2)) hV.2.2 ?_
    refine px_if_neB dx_Mo_flow_48 (fun c_48 => ?_) (fun c_48 => ?_)
    · refine px_iconst (v := 1) dx_Mo_flow_56 rfl ?_
      refine px_goto dx_Mo_flow_57 ?_
      refine px_putZ dx_Mo_flow_61 fl_Mo_274 rfl (by decide) rfl (by decide) ?_
      refine px_iconst (v := 0) dx_Mo_flow_64 rfl ?_
      refine px_istore (lv' := [(5, .int (0)), (4, .int (0)), (3, .int (nI (10 * ((40 * m) + p)))), (0, .ref (717)), (1, .int (nI (m))), (2, .int (nI (p)))]) dx_Mo_flow_65 (by decide) rfl ?_
      refine px_sub [3, 4, 5, 2, 1, 0] rfl ?_
      exact m_flow_l1 (σ := σ) (Rc := v.2.1) (T := v.1) (N := N) (fr := false) (ch := v.2.2) hm hpl hWN (by intro q; first | exact absurd q (by decide) | exact hWr (by assumption)) hT6 hN6 (fun σ' h => hp0 _ _ ⟨rfl, h.1, ⟨by (have := h.2.1; simp only [flS, c_21, Bool.not_true, Bool.not_false]; exact this), by (have := h.2.2.1; simp only [flS, c_21, Bool.not_true, Bool.not_false]; exact this), by (have := h.2.2.2.2.1; simp only [flS, c_21, Bool.not_true, Bool.not_false]; exact this)⟩, h.2.2.2.1, h.2.2.2.2.2⟩) 11 0 (sI (sI σ 730 ((40 * m) + p) 1) 717 20 1) (by omega) (by omega) ⟨hM, by (rw [show cpR (mrg false (v.1 p) N) (v.1 p) 0 = v.1 p from rfl, upT_id]; exact hV.1.ag (S := [730, 717]) (ag_sI (ag_sI Ag.rf (by decide)) (by decide)) (by decide)), (hV.2.1.up (p := p)).ag7, fun r hr => by (rw [gI_n (Or.inl (by decide)), gI_n (Or.inl (by decide))]; exact hN r hr), by (rw [gI_s]; simp [chR, b2i, *]), FO.ch (FO.rc hpl FO.rf)⟩
    · refine px_iload dx_Mo_flow_51 rfl ?_
      refine px_if_eq dx_Mo_flow_53 (fun _ => ?_) (fun q => absurd (by decide) q)
      refine px_iconst (v := 0) dx_Mo_flow_60 rfl ?_
      refine px_putZ dx_Mo_flow_61 fl_Mo_274 rfl (by decide) rfl (by decide) ?_
      refine px_iconst (v := 0) dx_Mo_flow_64 rfl ?_
      refine px_istore (lv' := [(5, .int (0)), (4, .int (0)), (3, .int (nI (10 * ((40 * m) + p)))), (0, .ref (717)), (1, .int (nI (m))), (2, .int (nI (p)))]) dx_Mo_flow_65 (by decide) rfl ?_
      refine px_sub [3, 4, 5, 2, 1, 0] rfl ?_
      exact m_flow_l1 (σ := σ) (Rc := v.2.1) (T := v.1) (N := N) (fr := false) (ch := v.2.2) hm hpl hWN (by intro q; first | exact absurd q (by decide) | exact hWr (by assumption)) hT6 hN6 (fun σ' h => hp0 _ _ ⟨rfl, h.1, ⟨by (have := h.2.1; simp only [flS, c_21, Bool.not_true, Bool.not_false]; exact this), by (have := h.2.2.1; simp only [flS, c_21, Bool.not_true, Bool.not_false]; exact this), by (have := h.2.2.2.2.1; simp only [flS, c_21, Bool.not_true, Bool.not_false]; exact this)⟩, h.2.2.2.1, h.2.2.2.2.2⟩) 11 0 (sI (sI σ 730 ((40 * m) + p) 1) 717 20 0) (by omega) (by omega) ⟨hM, by (rw [show cpR (mrg false (v.1 p) N) (v.1 p) 0 = v.1 p from rfl, upT_id]; exact hV.1.ag (S := [730, 717]) (ag_sI (ag_sI Ag.rf (by decide)) (by decide)) (by decide)), (hV.2.1.up (p := p)).ag7, fun r hr => by (rw [gI_n (Or.inl (by decide)), gI_n (Or.inl (by decide))]; exact hN r hr), by (rw [gI_s]; simp [chR, b2i, *]), FO.ch (FO.rc hpl FO.rf)⟩
  · refine px_iconst (v := 1) dx_Mo_flow_24 rfl ?_
    refine px_goto dx_Mo_flow_25 ?_
    refine px_istore (lv' := [(4, .int (1)), (3, .int (nI (10 * ((40 * m) + p)))), (0, .ref (717)), (1, .int (nI (m))), (2, .int (nI (p)))]) dx_Mo_flow_29 (by decide) rfl ?_
    refine px_aload_n dx_Mo_flow_31 rfl ?_
    refine px_getR (r := 730) dx_Mo_flow_32 fl_Mo_51 rfl (by decide) rfl (hM 17) ?_
    refine px_bipush (v := 40) dx_Mo_flow_35 rfl ?_
    refine px_iload_n dx_Mo_flow_37 rfl ?_
    refine px_imulN (a := 40) (b := m) dx_Mo_flow_38 ?_
    refine px_iload_n dx_Mo_flow_39 rfl ?_
    refine px_iaddN (a := 40 * m) (b := p) dx_Mo_flow_40 ?_
    refine px_iconst (v := 1) dx_Mo_flow_41 rfl ?_
    refine px_zastN (j := (40 * m) + p) dx_Mo_flow_42 rfl (by decide) (by omega) (by decide) ?_
    refine px_aload_n dx_Mo_flow_43 rfl ?_
    refine px_aload_n dx_Mo_flow_44 rfl ?_
    refine px_getI dx_Mo_flow_45 fl_Mo_274 rfl (by decide) rfl ?_
    refine px_eqi (y := b2i (v.2.2)) hV.2.2 ?_
    refine px_if_neB dx_Mo_flow_48 (fun c_48 => ?_) (fun c_48 => ?_)
    · refine px_iconst (v := 1) dx_Mo_flow_56 rfl ?_
      refine px_goto dx_Mo_flow_57 ?_
      refine px_putZ dx_Mo_flow_61 fl_Mo_274 rfl (by decide) rfl (by decide) ?_
      refine px_iconst (v := 0) dx_Mo_flow_64 rfl ?_
      refine px_istore (lv' := [(5, .int (0)), (4, .int (1)), (3, .int (nI (10 * ((40 * m) + p)))), (0, .ref (717)), (1, .int (nI (m))), (2, .int (nI (p)))]) dx_Mo_flow_65 (by decide) rfl ?_
      refine px_sub [3, 4, 5, 2, 1, 0] rfl ?_
      exact m_flow_l1 (σ := σ) (Rc := v.2.1) (T := v.1) (N := N) (fr := true) (ch := v.2.2) hm hpl hWN (by intro q; first | exact absurd q (by decide) | exact hWr (by assumption)) hT6 hN6 (fun σ' h => hp0 _ _ ⟨rfl, h.1, ⟨by (have := h.2.1; simp only [flS, c_21, Bool.not_true, Bool.not_false]; exact this), by (have := h.2.2.1; simp only [flS, c_21, Bool.not_true, Bool.not_false]; exact this), by (have := h.2.2.2.2.1; simp only [flS, c_21, Bool.not_true, Bool.not_false]; exact this)⟩, h.2.2.2.1, h.2.2.2.2.2⟩) 11 0 (sI (sI σ 730 ((40 * m) + p) 1) 717 20 1) (by omega) (by omega) ⟨hM, by (rw [show cpR (mrg true (v.1 p) N) (v.1 p) 0 = v.1 p from rfl, upT_id]; exact hV.1.ag (S := [730, 717]) (ag_sI (ag_sI Ag.rf (by decide)) (by decide)) (by decide)), (hV.2.1.up (p := p)).ag7, fun r hr => by (rw [gI_n (Or.inl (by decide)), gI_n (Or.inl (by decide))]; exact hN r hr), by (rw [gI_s]; simp [chR, b2i, *]), FO.ch (FO.rc hpl FO.rf)⟩
    · refine px_iload dx_Mo_flow_51 rfl ?_
      refine px_if_eq dx_Mo_flow_53 (fun q => absurd q (by decide)) (fun _ => ?_)
      refine px_iconst (v := 1) dx_Mo_flow_56 rfl ?_
      refine px_goto dx_Mo_flow_57 ?_
      refine px_putZ dx_Mo_flow_61 fl_Mo_274 rfl (by decide) rfl (by decide) ?_
      refine px_iconst (v := 0) dx_Mo_flow_64 rfl ?_
      refine px_istore (lv' := [(5, .int (0)), (4, .int (1)), (3, .int (nI (10 * ((40 * m) + p)))), (0, .ref (717)), (1, .int (nI (m))), (2, .int (nI (p)))]) dx_Mo_flow_65 (by decide) rfl ?_
      refine px_sub [3, 4, 5, 2, 1, 0] rfl ?_
      exact m_flow_l1 (σ := σ) (Rc := v.2.1) (T := v.1) (N := N) (fr := true) (ch := v.2.2) hm hpl hWN (by intro q; first | exact absurd q (by decide) | exact hWr (by assumption)) hT6 hN6 (fun σ' h => hp0 _ _ ⟨rfl, h.1, ⟨by (have := h.2.1; simp only [flS, c_21, Bool.not_true, Bool.not_false]; exact this), by (have := h.2.2.1; simp only [flS, c_21, Bool.not_true, Bool.not_false]; exact this), by (have := h.2.2.2.2.1; simp only [flS, c_21, Bool.not_true, Bool.not_false]; exact this)⟩, h.2.2.2.1, h.2.2.2.2.2⟩) 11 0 (sI (sI σ 730 ((40 * m) + p) 1) 717 20 1) (by omega) (by omega) ⟨hM, by (rw [show cpR (mrg true (v.1 p) N) (v.1 p) 0 = v.1 p from rfl, upT_id]; exact hV.1.ag (S := [730, 717]) (ag_sI (ag_sI Ag.rf (by decide)) (by decide)) (by decide)), (hV.2.1.up (p := p)).ag7, fun r hr => by (rw [gI_n (Or.inl (by decide)), gI_n (Or.inl (by decide))]; exact hN r hr), by (rw [gI_s]; simp [chR, b2i, *]), FO.ch (FO.rc hpl FO.rf)⟩
