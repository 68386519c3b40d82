theorem nar_id {k : Nat} {n : Int64} (h1 : 1 ≤ k) (h2 : k ≤ 6) (ok : okN k n) : nar k n = n := by
  have hb := b64 n
  unfold nar
  rcases (show k = 1 ∨ k = 2 ∨ k = 3 ∨ k = 4 ∨ k = 5 ∨ k = 6 by omega) with rfl | rfl | rfl | rfl | rfl | rfl
  · rw [if_pos rfl]; exact (and1_iff n).mpr (ok.1 rfl)
  · have r := ok.2.1 rfl
    rw [if_neg (by decide), if_pos rfl, ← Int64.toInt_inj, toI64, Int8.toInt_toInt32, Int32.toInt_toInt8, Int64.toInt_toInt32]
    rw [Int.bmod_eq_of_le (n := n.toInt) (by omega) (by omega), Int.bmod_eq_of_le (by omega) (by omega)]
  · have r := ok.2.2.1 rfl
    rw [if_neg (by decide), if_neg (by decide), if_pos rfl, ← Int64.toInt_inj, toI64, Int16.toInt_toInt32, Int32.toInt_toInt16, Int64.toInt_toInt32]
    rw [Int.bmod_eq_of_le (n := n.toInt) (by omega) (by omega), Int.bmod_eq_of_le (by omega) (by omega)]
  · have r := ok.2.2.2.1 rfl
    rw [if_neg (by decide), if_neg (by decide), if_neg (by decide), if_pos rfl, and65535]
    have e : n.toBitVec.toNat = n.toInt.toNat := by
      have : n.toInt = n.toBitVec.toInt := rfl
      rw [this, BitVec.toInt_eq_toNat_of_lt]
      · rfl
      · rw [this, BitVec.toInt_eq_toNat_cond] at r
        split at r
        · assumption
        · have := n.toBitVec.isLt; omega
    rw [← Int64.toInt_inj, I6_toInt (by omega)]; omega
  · have r := ok.2.2.2.2 rfl
    rw [if_neg (by decide), if_neg (by decide), if_neg (by decide), if_neg (by decide), if_pos rfl, ← Int64.toInt_inj, toI64, Int64.toInt_toInt32]
    rw [Int.bmod_eq_of_le (by omega) (by omega)]
  · rw [if_neg (by decide), if_neg (by decide), if_neg (by decide), if_neg (by decide), if_neg (by decide)]
theorem okN_wid {a b : Nat} {n : Int64} (w : widB a b = true) (ok : okN a n) : 1 ≤ b ∧ b ≤ 6 ∧ okN b n := by
  unfold widB at w
  have w := of_decide_eq_true w
  have r2 := ok.2.1
  have r3 := ok.2.2.1
  have r4 := ok.2.2.2.1
  have r5 := ok.2.2.2.2
  have b14 : b ≠ 1 ∧ b ≠ 2 ∧ b ≠ 4 ∧ 3 ≤ b ∧ b ≤ 6 := by omega
  refine ⟨by omega, by omega, fun z => by omega, fun z => by omega, fun z => ?_, fun z => by omega, fun z => ?_⟩
  · rcases w with ⟨e, _⟩ | ⟨e, _⟩ | ⟨e, _⟩
    · have := r2 e; omega
    · rcases e with e | e
      · omega
      · omega
    · omega
  · rcases w with ⟨e, _⟩ | ⟨e, _⟩ | ⟨e, _⟩
    · have := r2 e; omega
    · rcases e with e | e
      · have := r3 e; omega
      · have := r4 e; omega
    · omega
abbrev S910 (b j : Nat) : Prop := b = 49 ∧ (j = 9 ∨ j = 10)
abbrev Cv (h g h' g' : sm_H) (b : Nat) : Prop := (agr S48 g g') ∧ (agr S910 h h') ∧ (h'.2.2 = h.2.2) ∧ (h'.2.1 49 9 = g'.2.1 67 49) ∧ (h'.1 49 10 = tag (g'.1 67 48)) ∧ (okV g b (g'.1 67 48) (g'.2.1 67 49))
theorem Cv.a {h g h' g' : sm_H} {b : Nat} (F_ : Cv h g h' g' b) : agr S48 g g' := F_.1
theorem Cv.c {h g h' g' : sm_H} {b : Nat} (F_ : Cv h g h' g' b) : agr S910 h h' := F_.2.1
theorem Cv.r {h g h' g' : sm_H} {b : Nat} (F_ : Cv h g h' g' b) : h'.2.2 = h.2.2 := F_.2.2.1
theorem Cv.n {h g h' g' : sm_H} {b : Nat} (F_ : Cv h g h' g' b) : h'.2.1 49 9 = g'.2.1 67 49 := F_.2.2.2.1
theorem Cv.t {h g h' g' : sm_H} {b : Nat} (F_ : Cv h g h' g' b) : h'.1 49 10 = tag (g'.1 67 48) := F_.2.2.2.2.1
theorem Cv.ok {h g h' g' : sm_H} {b : Nat} (F_ : Cv h g h' g' b) : okV g b (g'.1 67 48) (g'.2.1 67 49) := F_.2.2.2.2.2
theorem conv {h g : sm_H} (K : K1 h g) {a b : Nat} (ha : a < 20 + nC g) (hb : b < 20 + nC g) {k : Int32} {n : Int64} (f : Bool) (ok : okV g a k n) {r : Bool} (may : mayB g a b f r = true) (h9 : h.2.1 49 9 = n) (h10 : h.1 49 10 = tag k) :
    (∃ h' g', F_90 (I3 a) (I3 b) (b2 f) h = some (0, h') ∧ F_300 (I3 a) (I3 b) k n (b2 f) g = some (0, g') ∧ Cv h g h' g' b) ∨ (∃ (e : Int32) (h' g' : sm_H), (e = 1 ∨ e = 2) ∧ F_90 (I3 a) (I3 b) (b2 f) h = some (e, h') ∧ F_300 (I3 a) (I3 b) k n (b2 f) g = some (e, g') ∧ agr S48 g g' ∧ agr S910 h h' ∧ h'.2.2 = h.2.2) := by
  have wK := K.1
  have h12 := wK.2.1
  have a0 : ∀ u v : Int32, ∀ w : Int64, agr S48 g (sm_wJ (sm_wI g 67 48 u) 67 49 w) := fun u v w => agr_wJ (agr_wI agr_rfl (by unfold S48; omega)) (by unfold S48; omega)
  have c0 : ∀ (u : Int32) (w : Int64), agr S910 h (sm_wI (sm_wJ h 49 9 w) 49 10 u) := fun u w => agr_wI (agr_wJ agr_rfl (by unfold S910; omega)) (by unfold S910; omega)
  have g13 : ∀ {α : Type} (X : sm_H → α), X (sm_wJ (sm_wI g 67 48 k) 67 49 n) = X (sm_wJ (sm_wI g 67 48 k) 67 49 n) := fun _ => rfl
  have I0a : (I3 a = 0) = (a = 0) := propext (by rw [I3_lit]; exact I3_inj (by omega) (by decide))
  have I0b : (I3 b = 0) = (b = 0) := propext (by rw [I3_lit]; exact I3_inj (by omega) (by decide))
  have Iab : (I3 a = I3 b) = (a = b) := propext (I3_inj (by omega) (by omega))
  have C90 : F_90 (I3 a) (I3 b) (b2 f) h = F_90_0 (I3 a) (I3 b) (b2 f) h := rfl
  have R300 : F_300 (I3 a) (I3 b) k n (b2 f) g = F_300_0 (I3 a) (I3 b) k n (b2 f) g := rfl
  unfold F_90_0 F_90_8 at C90
  unfold F_300_0 at R300
  simp only [obs, I0a, I0b, Iab] at C90 R300
  have giv : ((F_75 0 0 h).bind fun q1 => some ((0 : Int32), q1.2)) = some (0, sm_wI (sm_wJ h 49 9 0) 49 10 0) := rfl
  by_cases qab : a = b
  · rw [if_pos qab] at R300
    left
    by_cases qa : a = 0
    · rw [if_pos qa, giv] at C90
      have e0 : k = 0 ∧ n = 0 := by
        rcases ok with ⟨z, _⟩ | ⟨_, z1, z2⟩ | ⟨z, _⟩
        · omega
        · exact ⟨z1, z2⟩
        · omega
      refine ⟨_, _, C90, R300, a0 k k n, c0 _ _, rfl, ?_, ?_, ?_⟩
      · show (0 : Int64) = n; exact e0.2.symm
      · show (0 : Int32) = tag k; rw [e0.1]; decide
      · rw [← qab]; exact ok
    · rw [if_neg qa, if_neg (by omega), if_pos qab] at C90
      refine ⟨_, _, C90, R300, a0 k k n, agr_rfl, rfl, h9, h10, ?_⟩
      rw [← qab]; exact ok
  · rw [if_neg qab] at R300
    by_cases qb : b = 0
    · left
      have C1 : F_90 (I3 a) (I3 b) (b2 f) h = some (0, sm_wI (sm_wJ h 49 9 0) 49 10 0) := by
        rw [C90, if_neg (by omega), if_pos qb, giv]
      rw [if_pos qb, show F_299 0 (sm_wJ (sm_wI g 67 48 k) 67 49 n) = _ from R_zero (q := 0) (by decide)] at R300; simp only [obs] at R300
      refine ⟨_, _, C1, R300, agr_trans (a0 k k n) (agr_wJ (agr_wI agr_rfl (by unfold S48; omega)) (by unfold S48; omega)), c0 _ _, rfl, rfl, rfl, ?_⟩
      rw [qb]; exact Or.inr (Or.inl ⟨Or.inl rfl, rfl, rfl⟩)
    · rw [if_neg qb] at R300
      by_cases qa : a = 0
      · left
        rw [if_pos qa, giv] at C90
        rw [if_pos qa, R_zero (by omega)] at R300; simp only [obs] at R300
        refine ⟨_, _, C90, R300, agr_trans (a0 k k n) (agr_wJ (agr_wI agr_rfl (by unfold S48; omega)) (by unfold S48; omega)), c0 _ _, rfl, rfl, ?_, okV_zk (by omega)⟩
        show (0 : Int32) = tag (zk (I3 b)); rw [tag_zk]
      · rw [if_neg qa] at C90 R300
        rw [if_neg qb, if_neg qab] at C90
        have KN : K1 h (sm_wJ (sm_wI g 67 48 k) 67 49 n) := K1_N K (agr_mono (fun b j z => by unfold S48 at z; unfold SN; omega) (a0 k k n))
        rw [C_plain (by omega)] at C90; simp only [obs] at C90
        rw [R_plain (by omega)] at R300; simp only [obs] at R300
        have mB : mayB g a b f r = (if a ≤ 6 then (if b ≤ 6 then f || widB a b else B g (a + 8) b) else if 7 ≤ b then true else if a = 7 then true else if a = 8 then f || decide (b = 2 ∨ b = 3 ∨ b = 5 ∨ b = 6) else if 9 ≤ a ∧ a ≤ 14 then f || (decide (a - 8 = b) || widB (a - 8) b) else false) := by
          unfold mayB; rw [if_neg qab, if_neg qa, if_neg qb]
        rw [mB] at may
        by_cases q6 : a ≤ 6
        · obtain ⟨ek, okn⟩ := okV_6 (v := (k, n)) (by omega) q6 ok
          have ek : k = I3 a := ek
          rw [decide_eq_true (show 1 ≤ a ∧ a ≤ 6 by omega), if_neg (by decide)] at C90 R300
          rw [C_plain (by omega)] at C90; simp only [obs] at C90
          rw [R_plain (by omega)] at R300; simp only [obs] at R300
          rw [if_pos q6] at may
          left
          by_cases p6 : b ≤ 6
          · rw [decide_eq_true (show 1 ≤ b ∧ b ≤ 6 by omega), if_neg (by decide)] at C90 R300
            rw [if_pos p6] at may
            rw [C_nar h (by omega), h9] at C90; simp only [obs] at C90
            have C1 : F_90 (I3 a) (I3 b) (b2 f) h = some (0, sm_wI (sm_wJ h 49 9 (nar b n)) 49 10 0) := C90
            have R1 : F_300 (I3 a) (I3 b) k n (b2 f) g = some (0, sm_wJ (sm_wI (sm_wJ (sm_wI g 67 48 k) 67 49 n) 67 48 (I3 b)) 67 49 (nar b n)) := by
              rw [R300]
              unfold F_300_76
              cases f with
              | false =>
                rw [Bool.false_or] at may
                obtain ⟨w1, w2, w3⟩ := okN_wid may okn
                rw [if_pos (by decide), nar_id w1 w2 w3]; simp only [obs]
              | true => rw [if_neg (by decide), R_nar _ (by omega)]; simp only [obs]
            refine ⟨_, _, C1, R1, agr_trans (a0 k k n) (agr_wJ (agr_wI agr_rfl (by unfold S48; omega)) (by unfold S48; omega)), c0 _ _, rfl, rfl, ?_, Or.inl ⟨by omega, p6, rfl, nar_ok b n⟩⟩
            show (0 : Int32) = tag (I3 b); rw [tag_p (by omega) p6]
          · rw [decide_eq_false (show ¬ (1 ≤ b ∧ b ≤ 6) by omega), if_pos (by decide)] at C90 R300
            rw [if_neg p6] at may
            rw [h9, show F_75 n (I3 a + 8) h = some (0, sm_wI (sm_wJ h 49 9 n) 49 10 (I3 a + 8)) from rfl] at C90; simp only [obs] at C90
            unfold F_300_81 at R300
            rw [R_plain (by omega), decide_eq_true (show 1 ≤ a ∧ a ≤ 6 by omega)] at R300; simp only [obs] at R300
            rw [if_neg (by decide)] at R300
            have e8 : I3 a + 8 = I3 (a + 8) := I3_add a 8
            rw [e8] at C90 R300
            refine ⟨_, _, C90, R300, agr_wI (a0 k k n) (by unfold S48; omega), c0 _ _, rfl, rfl, ?_, ?_⟩
            · show I3 (a + 8) = tag (I3 (a + 8)); rw [tag_I (by omega) (by omega)]
            · refine Or.inr (Or.inr ⟨by omega, a + 8, rfl, by omega, may, Or.inl ⟨by omega, by omega, ?_⟩⟩)
              rw [Nat.add_sub_cancel]; exact okn
        · rw [decide_eq_false (show ¬ (1 ≤ a ∧ a ≤ 6) by omega), if_pos (by decide)] at C90 R300
          rw [C_plain (by omega)] at C90; simp only [obs] at C90
          unfold F_300_81 at R300
          rw [R_plain (by omega), decide_eq_false (show ¬ (1 ≤ a ∧ a ≤ 6) by omega)] at R300; simp only [obs] at R300
          rw [if_pos (by decide), R_ref (by omega)] at R300; simp only [obs] at R300
          have o7 := okV_7 (v := (k, n)) wK (by omega) ok
          by_cases p6 : b ≤ 6
          · rw [decide_eq_true (show 1 ≤ b ∧ b ≤ 6 by omega), if_neg (by decide), show F_91 (I3 b) (b2 f) h = F_91_0 (I3 b) (b2 f) h from rfl] at C90
            rw [decide_eq_false (show ¬ 7 ≤ b by omega), if_pos (by decide)] at R300
            unfold F_91_0 at C90
            rw [h10] at C90
            rcases o7 with ⟨z1, z2⟩ | ⟨q, z1, z2, z3, z4, z5, z6, z7⟩
            · have zk' : k = 0 := congrArg Prod.fst z1
              have zn : n = 0 := congrArg Prod.snd z1
              rw [if_pos (show tag k = 0 from z2)] at C90
              rw [if_pos zk', R_zero (by omega)] at R300; simp only [obs] at R300
              cases f with
              | false =>
                rw [if_pos (show b2 false = 0 from rfl)] at C90 R300
                exact Or.inr ⟨1, _, _, Or.inl rfl, C90, R300, agr_trans (a0 k k n) (agr_wJ (agr_wI agr_rfl (by unfold S48; omega)) (by unfold S48; omega)), agr_rfl, rfl⟩
              | true =>
                rw [if_neg (show ¬ b2 true = 0 by decide)] at C90 R300
                refine Or.inl ⟨_, _, C90, R300, agr_trans (a0 k k n) (agr_wJ (agr_wI agr_rfl (by unfold S48; omega)) (by unfold S48; omega)), agr_rfl, rfl, ?_, ?_, okV_zk (by omega)⟩
                · rw [h9, zn]; rfl
                · rw [h10, zk']; show tag 0 = tag (zk (I3 b)); rw [tag_zk]; decide
            · have ek : k = I3 q := z1
              have tk : tag k = I3 q := by rw [show tag k = k from z6, ek]
              rw [tk, if_neg (by rw [I3_lit, I3_inj (by omega) (by decide)]; omega), C_isBox (by omega)] at C90; simp only [obs] at C90
              rw [if_neg (show ¬ k = 0 from z7), ek, R_isBox (by omega)] at R300; simp only [obs] at R300
              by_cases bx : 9 ≤ q ∧ q ≤ 14
              · rw [decide_eq_true bx, if_neg (by decide)] at C90 R300
                have okn : okN (q - 8) n := by
                  rcases z5 with w | w | w | w
                  · exact w.2.2
                  · omega
                  · omega
                  · omega
                have fin : ∀ (cC : F_90 (I3 a) (I3 b) (b2 f) h = F_91_52 (I3 b) h) (cR : F_300 (I3 a) (I3 b) k n (b2 f) g = F_300_169 (I3 b) n (b2 f) (sm_wJ (sm_wI g 67 48 (I3 q)) 67 49 n)) (w : f = false → okN b n), ∃ h' g', F_90 (I3 a) (I3 b) (b2 f) h = some (0, h') ∧ F_300 (I3 a) (I3 b) k n (b2 f) g = some (0, g') ∧ Cv h g h' g' b := fun cC cR w => by
                  have C1 : F_90 (I3 a) (I3 b) (b2 f) h = some (0, sm_wI (sm_wJ h 49 9 (nar b n)) 49 10 0) := by
                    rw [cC]
                    unfold F_91_52
                    rw [h9, C_nar h (by omega)]; rfl
                  have R1 : F_300 (I3 a) (I3 b) k n (b2 f) g = some (0, sm_wJ (sm_wI (sm_wJ (sm_wI g 67 48 (I3 q)) 67 49 n) 67 48 (I3 b)) 67 49 (nar b n)) := by
                    rw [cR]
                    unfold F_300_169 F_300_191
                    simp only [obs]
                    cases f with
                    | false => rw [if_pos (by decide), nar_id (by omega) p6 (w rfl)]
                    | true => rw [if_neg (by decide), R_nar _ (by omega)]; simp only [obs]
                  refine ⟨_, _, C1, R1, agr_trans (a0 (I3 q) k n) (agr_wJ (agr_wI agr_rfl (by unfold S48; omega)) (by unfold S48; omega)), c0 _ _, rfl, rfl, ?_, Or.inl ⟨by omega, p6, rfl, nar_ok b n⟩⟩
                  show (0 : Int32) = tag (I3 b); rw [tag_p (by omega) p6]
                rw [ek] at fin
                cases f with
                | true =>
                  rw [if_neg (by decide)] at C90 R300
                  left; rw [ek]
                  obtain ⟨h', g', f1, f2, f3⟩ := fin (by rw [C90]; cases F_91_52 (I3 b) h <;> rfl) R300 (fun z => by cases z)
                  exact ⟨h', g', f1, f2, f3⟩
                | false =>
                  rw [if_pos (by decide)] at C90 R300
                  have C66 : F_66 (I3 q) (I3 b) h = some (b2 (decide (q - 8 = b) || widB (q - 8) b), h) := by
                    show F_66_0 (I3 q) (I3 b) h = _
                    unfold F_66_0 F_66_28 F_66_32 F_66_33
                    simp only [true_or, or_true, if_true]
                    rw [C_isBox (by omega), decide_eq_true bx]; simp only [obs]
                    rw [if_neg (by decide), show I3 q - 8 = I3 (q - 8) from I3_sub (b := 8) (by omega)]
                    by_cases e : q - 8 = b
                    · rw [if_pos (by rw [e]), decide_eq_true e]; rfl
                    · rw [if_neg (by rw [I3_inj (by omega) (by omega)]; exact e), decide_eq_false e, C_widN (by omega) (by omega)]; simp only [obs]
                      cases widB (q - 8) b <;> rfl
                  rw [h10, tk, C66] at C90; simp only [obs] at C90
                  rw [show I3 q - 8 = I3 (q - 8) from I3_sub (b := 8) (by omega), R_wid (by omega) (by omega)] at R300; simp only [obs] at R300
                  cases w : decide (q - 8 = b) || widB (q - 8) b with
                  | false =>
                    rw [w, if_pos (by decide)] at C90 R300
                    right; rw [ek]
                    exact ⟨2, _, _, Or.inr rfl, C90, R300, a0 (I3 q) k n, agr_rfl, rfl⟩
                  | true =>
                    rw [w, if_neg (by decide)] at C90 R300
                    left; rw [ek]
                    have okb : okN b n := by
                      rw [Bool.or_eq_true, decide_eq_true_eq] at w
                      rcases w with w | w
                      · rw [← w]; exact okn
                      · exact (okN_wid w okn).2.2
                    obtain ⟨h', g', f1, f2, f3⟩ := fin (by rw [C90]; cases F_91_52 (I3 b) h <;> rfl) R300 (fun _ => okb)
                    exact ⟨h', g', f1, f2, f3⟩
              · rw [decide_eq_false bx, if_pos (by decide)] at C90 R300
                right; rw [ek]
                exact ⟨2, _, _, Or.inr rfl, C90, R300, a0 (I3 q) k n, agr_rfl, rfl⟩
          · rw [decide_eq_false (show ¬ (1 ≤ b ∧ b ≤ 6) by omega), if_pos (by decide), h10] at C90
            rw [decide_eq_true (show 7 ≤ b by omega), if_neg (by decide)] at R300
            rcases o7 with ⟨z1, z2⟩ | ⟨q, z1, z2, z3, z4, z5, z6, z7⟩
            · have zk' : k = 0 := congrArg Prod.fst z1
              have zn : n = 0 := congrArg Prod.snd z1
              rw [if_pos (show tag k = 0 from z2)] at C90
              rw [if_pos zk'] at R300
              exact Or.inl ⟨_, _, C90, R300, a0 k k n, agr_rfl, rfl, h9, h10, by rw [show (sm_wJ (sm_wI g 67 48 k) 67 49 n).1 67 48 = k from rfl, show (sm_wJ (sm_wI g 67 48 k) 67 49 n).2.1 67 49 = n from rfl, zk', zn]; exact okV_null (by omega)⟩
            · have ek : k = I3 q := z1
              have tk : tag k = I3 q := by rw [show tag k = k from z6, ek]
              rw [tk, if_neg (by rw [I3_lit, I3_inj (by omega) (by decide)]; omega), C_belowN wK K.2.1 z3 hb] at C90; simp only [obs] at C90
              rw [if_neg (show ¬ k = 0 from z7), ek, R_below (g := sm_wJ (sm_wI g 67 48 (I3 q)) 67 49 n) wK z3 (by omega)] at R300; simp only [obs] at R300
              have eB : B (sm_wJ (sm_wI g 67 48 (I3 q)) 67 49 n) q b = B g q b := rfl
              rw [eB] at R300
              cases w : B g q b with
              | false =>
                rw [w, if_pos (by decide)] at C90 R300
                right; rw [ek]
                exact ⟨2, _, _, Or.inr rfl, C90, R300, a0 (I3 q) k n, agr_rfl, rfl⟩
              | true =>
                rw [w, if_neg (by decide)] at C90 R300
                left; rw [ek]
                exact ⟨_, _, C90, R300, a0 (I3 q) k n, agr_rfl, rfl, h9, by rw [h10, ek]; rfl, Or.inr (Or.inr ⟨by omega, q, rfl, z3, w, z5⟩)⟩
