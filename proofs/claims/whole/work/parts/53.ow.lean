/-! THE LAW'S OWN ROW of one long number, at 168; the reference under the class -/
def oW (cy : Nat → ClassId) (F : Nat → va_E) (f : Nat → Int64) : Nat → va_E := fun i => if i = 168 then .inl (cy 4, 1, .inr (.inl f)) else F i
section OWL
variable {cy : Nat → ClassId} {L : Nat → Nat} {F : Nat → va_E} {f g : Nat → Int64} {c : CT}
theorem cW_168 : cW cy L (oW cy F f) c 168 = .inl (cy 4, 1, .inr (.inl f)) := by rw [cW_n (by omega)]; simp [oW]
theorem cW_u168 : gup (cW cy L (oW cy F f) c) 168 (.inl (cy 4, 1, .inr (.inl g))) = cW cy L (oW cy F g) c := by
  funext i
  by_cases h : i = 168
  · subst h; rw [gup_s]; exact cW_168.symm
  · rw [gup_n h]
    by_cases h2 : 162 ≤ i
    · rw [cW_n h2, cW_n h2]; simp [oW, h]
    · rw [cW_i (by omega), cW_i (by omega)]
theorem mW_cW {mt : Int32} {ms ma mv : Nat → Int32} {mn : Int32} {mb : Nat → Int32} {ml mp mw : Int32} {mr : Nat → Int32} {mq : Int32} {mh : Int64} :
    mW cy L (cW cy L F c) mt ms ma mv mn mb ml mp mw mr mq mh = cW cy L (mW cy L F mt ms ma mv mn mb ml mp mw mr mq mh) c := by
  funext i
  by_cases h2 : 162 ≤ i
  · rw [cW_n h2]; simp only [mW]; rw [cW_n h2]
  · rw [cW_i (by omega)]; simp only [mW]
    rw [if_neg (by omega), if_neg (by omega), if_neg (by omega), if_neg (by omega), if_neg (by omega), if_neg (by omega), cW_i (by omega)]
theorem mW_oW {mt : Int32} {ms ma mv : Nat → Int32} {mn : Int32} {mb : Nat → Int32} {ml mp mw : Int32} {mr : Nat → Int32} {mq : Int32} {mh : Int64} :
    mW cy L (oW cy F f) mt ms ma mv mn mb ml mp mw mr mq mh = oW cy (mW cy L F mt ms ma mv mn mb ml mp mw mr mq mh) f := by
  funext i
  by_cases h2 : i = 168
  · subst h2; simp [mW, oW]
  · simp [mW, oW, h2]
end OWL
