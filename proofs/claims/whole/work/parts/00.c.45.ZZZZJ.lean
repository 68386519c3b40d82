section
variable {n : Nat} {bt : Nat → Nat} {o T k : Nat} {nm : Nat → Int64} {kd : List Int32} {h g : sm_H}
theorem badLeaf {m f : Nat} (s : TS n bt T (k + 1) nm kd h g) (lc : LXC n bt f h) (r : RB n bt f g) (w : wrd n bt f = 0 ∨ wrd n bt f = 2 ∨ wrd n bt f = 5) (rec : sm_H → Option (Int32 × sm_H)) : EO n bt o T k m f nm kd h g (F_194R rec h) (F_448 g) := by
  obtain ⟨g1, d1, d2, d3, d4, d5⟩ := look_R s r
  rw [if_neg (by omega)] at d5
  obtain ⟨d5, lr⟩ := d5
  have a6 : agr (fun b j => b = 67 ∧ j = 106) g1 (sm_wI g1 67 106 (I3 f)) := agr_wI agr_rfl ⟨rfl, rfl⟩
  have S2 := (TS_x (T' := T) (k' := k + 1) d1 agr_rfl (agr_mono (fun b j z => Or.inr ⟨z.1, by omega⟩) a6)).1
  have ag1 : agr (fun b j => SLx b j ∨ (b = 67 ∧ (j = 105 ∨ j = 106 ∨ j = 108))) g (sm_wI g1 67 106 (I3 f)) := agr_trans (agr_mono (fun b j z => Or.inl z) d2) (agr_mono (fun b j z => Or.inr ⟨z.1, by omega⟩) a6)
  have X1 := (TS_x (T' := 0) (k' := 0) s agr_rfl ag1).2
  obtain ⟨h2, g2, f1, f2, f3, f4⟩ := XT_fail S2 (T' := 0) (k' := 0) (e := 4) (f := f) (by decide) (by decide)
  have nc : ∀ x : Nat, x = 1 ∨ x = 3 ∨ x = 4 → ¬ I3 (wrd n bt f) = I3 x := fun x hx => by rw [I3_inj (by omega) (by omega)]; omega
  have nr : ∀ x : Nat, x = 1 ∨ x = 2 ∨ x = 3 → ¬ I3 (rwd (wrd n bt f)) = I3 x := fun x hx => by
    rcases w with z | z | z <;> rw [z] <;> rcases hx with rfl | rfl | rfl <;> decide
  refine Or.inr ⟨4, f, h2, g2, ?_, f3, XT_trans X1 f4, Or.inl ?_⟩
  · show F_194_0 rec h = _
    unfold F_194_0 F_194_109
    rw [show F_243 h = some (h.1 52 5, h) from rfl, lc.1]; simp only [obs]
    rw [show F_242 h = some (h.1 52 4, h) from rfl, lc.2.1]; simp only [obs]
    rw [if_neg (show ¬ I3 (wrd n bt f) = (1 : Int32) from nc 1 (by decide)), if_neg (show ¬ I3 (wrd n bt f) = (3 : Int32) from nc 3 (by decide)), if_neg (show ¬ I3 (wrd n bt f) = (4 : Int32) from nc 4 (by decide)), C_170 lc, show F_169 4 (I3 f) h = some (-1, h2) from f1]; rfl
  · show F_448_0 g = _
    unfold F_448_0
    rw [d5]; simp only [obs]
    rw [if_neg (by decide), d4, show (sm_wI g1 67 106 (I3 f)).1 67 80 = g1.1 67 80 from rfl, lr.2.2.1, if_neg (show ¬ I3 (rwd (wrd n bt f)) = (2 : Int32) from nr 2 (by decide)), if_neg (show ¬ I3 (rwd (wrd n bt f)) = (3 : Int32) from nr 3 (by decide)), if_neg (show ¬ I3 (rwd (wrd n bt f)) = (1 : Int32) from nr 1 (by decide)), f421 _ (show (sm_wI g1 67 106 (I3 f)).1 67 81 = I3 f from d4)]
    exact f2
theorem C_169f {e pc : Nat} (ft : FT e pc h g) (x y : Int32) : F_169 x y h = some (-1, h) := by
  obtain ⟨f1, -, -, -, f5, f6⟩ := ft
  show F_169_0 x y h = _
  unfold F_169_0
  rw [if_neg (by rw [f1, I3_lit, I3_inj (by omega) (by decide)]; omega)]
  rfl
theorem badWord (s : TS n bt T k nm kd h g) {f : Nat} (lc : LXC n bt f h) (r : RB n bt f g) (w : wrd n bt f = 6) : ∃ h2 g2, F_170 (h.1 52 6) h = some (-1, h2) ∧ F_418 g = some (0, g2) ∧ FT (wtr n bt f) f h2 g2 ∧ XT 0 0 h g h2 g2 ∧ agr (fun b j => b = 55 ∧ (j = 17 ∨ j = 18)) h h2 := by
  obtain ⟨g1, d1, d2, d3, d4, d5⟩ := look_R s r
  rw [if_pos w] at d5
  have X1 := (TS_x (T' := 0) (k' := 0) s agr_rfl (agr_mono (fun b j z => Or.inl z) d2)).2
  have e9 : 1 ≤ wtr n bt f := by
    unfold wtr
    repeat' split
    all_goals omega
  have e3 := wtr_3 n bt f
  obtain ⟨h2, g2, f1, f2, f3, f4⟩ := XT_fail d1 (T' := 0) (k' := 0) (e := wtr n bt f) (f := f) e9 (by omega)
  have fe : F_169 (I3 (wtr n bt f)) (I3 f) h = some (-1, sm_wI (sm_wI h 55 17 (I3 (wtr n bt f))) 55 18 (I3 f)) := by
    show F_169_0 (I3 (wtr n bt f)) (I3 f) h = _
    unfold F_169_0
    rw [if_pos s.nf.1]; rfl
  have eh : h2 = sm_wI (sm_wI h 55 17 (I3 (wtr n bt f))) 55 18 (I3 f) := by
    rw [fe] at f1
    injection f1 with f1
    exact (congrArg Prod.snd f1).symm
  refine ⟨h2, g2, ?_, d5.trans f2, f3, XT_trans X1 f4, ?_⟩
  · rw [lc.2.2.1 w, C_170 lc]; exact f1
  · rw [eh]; exact agr_wI (agr_wI agr_rfl ⟨rfl, Or.inl rfl⟩) ⟨rfl, Or.inr rfl⟩
theorem EO_step {m f : Nat} {h1 : sm_H} {rc rr : Option (Int32 × sm_H)} (K : K1 h g) (a : agr S52 h h1) (e : EO n bt o T k m f nm kd h1 g rc rr) : EO n bt o T k m f nm kd h g rc rr := by
  have X : ∀ T' k', XT T' k' h g h1 g := fun T' k' => XT_x K (agr_mono (fun b j z => Or.inl z) a) agr_rfl
  rcases e with ⟨y, h2, g1, g2, f', c, e1, e2, e3, e4, e5, e6, e7, e8, e9, e10, e11, e12, e13, e14⟩ | ⟨e', pc, h2, g1, e1, e2, e3, e4⟩
  · exact Or.inl ⟨y, h2, g1, g2, f', c, e1, e2, e3, e4, e5, e6, e7, e8, e9, e10, e11, e12, agr_trans (X T 0).c e13, e14⟩
  · exact Or.inr ⟨e', pc, h2, g1, e1, e2, XT_trans (X 0 0) e3, e4⟩
theorem exprA {m f : Nat} {rec rec2 : sm_H → Option (Int32 × sm_H)} (hr : ∀ u, rec u = F_194R rec2 u) (ES : ∀ h1, TS n bt T (k + 1) nm kd h1 g → OP o h1 g → LXC n bt f h1 → wrd n bt f ≠ 6 → EO n bt o T k m f nm kd h1 g (rec h1) (F_448 g)) (s : TS n bt T (k + 1) nm kd h g) (p : OP o h g) (c : CB n bt f h) (r : RB n bt f g) : EO n bt o T k m f nm kd h g (F_193 rec h) (F_448 g) := by
  obtain ⟨h1, c1, c2, c3, c4⟩ := step_C s c
  have w6 := wrd_6 n bt f
  have C0 : F_193 rec h = F_193_0 rec h := rfl
  unfold F_193_0 at C0
  have C1 : F_171 h = F_171_0 h := rfl
  unfold F_171_0 F_171_26 at C1
  rw [c1] at C1; simp only [obs] at C1
  by_cases w : wrd n bt f = 6
  · obtain ⟨h2, g2, b1, b2', b3, b4, b5⟩ := badWord c3 c2 r w
    rw [if_pos (by rw [w]; rfl), show F_244 h1 = some (h1.1 52 6, h1) from rfl] at C1; simp only [obs] at C1
    rw [b1] at C1; simp only [obs] at C1
    rw [C1] at C0; simp only [obs] at C0
    refine EO_step s.K c4 (Or.inr ⟨_, _, h2, g2, ?_, b3, b4, Or.inl ?_⟩)
    · rw [C0, bind_id, hr]
      show F_194_0 rec2 h2 = _
      unfold F_194_0 F_194_109
      rw [show F_243 h2 = some (h2.1 52 5, h2) from rfl]; simp only [obs]
      rw [show F_242 h2 = some (h2.1 52 4, h2) from rfl, b5.1 52 4 (by omega), c2.2.1, w]; simp only [obs]
      rw [if_neg (by decide), if_neg (by decide), if_neg (by decide)]
      show ((F_170_0 4 h2).bind fun q1 => some (q1.1, q1.2)) = _
      unfold F_170_0
      rw [show F_243 h2 = some (h2.1 52 5, h2) from rfl]; simp only [obs]
      rw [C_169f b3]; rfl
    · show F_448_0 g = _
      unfold F_448_0
      rw [b2']; simp only [obs]
      rw [if_pos trivial]
  · rw [if_neg (by rw [I3_lit, I3_inj (by omega) (by decide)]; exact w)] at C1
    rw [C1] at C0; simp only [obs] at C0
    rw [C0, bind_id]
    exact EO_step s.K c4 (ES h1 c3 (OP_x (Q := fun _ _ => False) p c4 agr_rfl (by unfold S52; omega) (fun z => z)) c2 w)
end
