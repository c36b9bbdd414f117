/-! A start of the law at the script rScr. -/
def rAbout : State := start1.aboutOf ⟨rScr.map Value.int⟩
theorem r_vm : rAbout.vm = start1.about.vm := rfl
theorem code_vm {s t : State} (h : s.vm = t.vm) (c : Cond) (hc : su_isCode c = true) (a : Array Value) : c.before a s = c.before a t := by
  cases c
  case code => simp only [Cond.before, Cond.holds, Cond.value, State.methodNamed?, h]
  all_goals (simp [su_isCode] at hc)
theorem r_split {α : Type} (p : α → Bool) (n : Nat) (l : List α) (h1 : (l.take n).all p = true) (h2 : (l.drop n).all p = true) : l.all p = true := by
  have h : (l.take n ++ l.drop n).all p = true := by rw [List.all_append, h1, h2]; rfl
  rwa [List.take_append_drop] at h
set_option maxRecDepth 16384 in
theorem ro_1_0 : (tables_1_1.take 40).all (fun c => su_isCode c || c.before start1.args0 rAbout) = true := by decide +kernel
set_option maxRecDepth 16384 in
theorem ro_1_1 : ((tables_1_1.drop 40).take 40).all (fun c => su_isCode c || c.before start1.args0 rAbout) = true := by decide +kernel
set_option maxRecDepth 16384 in
theorem ro_1_2 : (((tables_1_1.drop 40).drop 40).take 40).all (fun c => su_isCode c || c.before start1.args0 rAbout) = true := by decide +kernel
set_option maxRecDepth 16384 in
theorem ro_1_3 : ((((tables_1_1.drop 40).drop 40).drop 40).take 40).all (fun c => su_isCode c || c.before start1.args0 rAbout) = true := by decide +kernel
set_option maxRecDepth 16384 in
theorem ro_1_4 : (((((tables_1_1.drop 40).drop 40).drop 40).drop 40).take 40).all (fun c => su_isCode c || c.before start1.args0 rAbout) = true := by decide +kernel
set_option maxRecDepth 16384 in
theorem ro_1_5 : (((((tables_1_1.drop 40).drop 40).drop 40).drop 40).drop 40).all (fun c => su_isCode c || c.before start1.args0 rAbout) = true := by decide +kernel
theorem ro_1 : tables_1_1.all (fun c => su_isCode c || c.before start1.args0 rAbout) = true := (r_split _ 40 tables_1_1 ro_1_0 (r_split _ 40 (tables_1_1.drop 40) ro_1_1 (r_split _ 40 ((tables_1_1.drop 40).drop 40) ro_1_2 (r_split _ 40 (((tables_1_1.drop 40).drop 40).drop 40) ro_1_3 (r_split _ 40 ((((tables_1_1.drop 40).drop 40).drop 40).drop 40) ro_1_4 ro_1_5)))))
set_option maxRecDepth 16384 in
theorem ro_2_0 : (tables_1_2.take 40).all (fun c => su_isCode c || c.before start1.args0 rAbout) = true := by decide +kernel
set_option maxRecDepth 16384 in
theorem ro_2_1 : ((tables_1_2.drop 40).take 40).all (fun c => su_isCode c || c.before start1.args0 rAbout) = true := by decide +kernel
set_option maxRecDepth 16384 in
theorem ro_2_2 : (((tables_1_2.drop 40).drop 40).take 40).all (fun c => su_isCode c || c.before start1.args0 rAbout) = true := by decide +kernel
set_option maxRecDepth 16384 in
theorem ro_2_3 : ((((tables_1_2.drop 40).drop 40).drop 40).take 40).all (fun c => su_isCode c || c.before start1.args0 rAbout) = true := by decide +kernel
set_option maxRecDepth 16384 in
theorem ro_2_4 : (((((tables_1_2.drop 40).drop 40).drop 40).drop 40).take 40).all (fun c => su_isCode c || c.before start1.args0 rAbout) = true := by decide +kernel
set_option maxRecDepth 16384 in
theorem ro_2_5 : (((((tables_1_2.drop 40).drop 40).drop 40).drop 40).drop 40).all (fun c => su_isCode c || c.before start1.args0 rAbout) = true := by decide +kernel
theorem ro_2 : tables_1_2.all (fun c => su_isCode c || c.before start1.args0 rAbout) = true := (r_split _ 40 tables_1_2 ro_2_0 (r_split _ 40 (tables_1_2.drop 40) ro_2_1 (r_split _ 40 ((tables_1_2.drop 40).drop 40) ro_2_2 (r_split _ 40 (((tables_1_2.drop 40).drop 40).drop 40) ro_2_3 (r_split _ 40 ((((tables_1_2.drop 40).drop 40).drop 40).drop 40) ro_2_4 ro_2_5)))))
set_option maxRecDepth 16384 in
theorem ro_3_0 : (tables_1_3.take 40).all (fun c => su_isCode c || c.before start1.args0 rAbout) = true := by decide +kernel
set_option maxRecDepth 16384 in
theorem ro_3_1 : ((tables_1_3.drop 40).take 40).all (fun c => su_isCode c || c.before start1.args0 rAbout) = true := by decide +kernel
set_option maxRecDepth 16384 in
theorem ro_3_2 : (((tables_1_3.drop 40).drop 40).take 40).all (fun c => su_isCode c || c.before start1.args0 rAbout) = true := by decide +kernel
set_option maxRecDepth 16384 in
theorem ro_3_3 : ((((tables_1_3.drop 40).drop 40).drop 40).take 40).all (fun c => su_isCode c || c.before start1.args0 rAbout) = true := by decide +kernel
set_option maxRecDepth 16384 in
theorem ro_3_4 : (((((tables_1_3.drop 40).drop 40).drop 40).drop 40).take 40).all (fun c => su_isCode c || c.before start1.args0 rAbout) = true := by decide +kernel
set_option maxRecDepth 16384 in
theorem ro_3_5 : (((((tables_1_3.drop 40).drop 40).drop 40).drop 40).drop 40).all (fun c => su_isCode c || c.before start1.args0 rAbout) = true := by decide +kernel
theorem ro_3 : tables_1_3.all (fun c => su_isCode c || c.before start1.args0 rAbout) = true := (r_split _ 40 tables_1_3 ro_3_0 (r_split _ 40 (tables_1_3.drop 40) ro_3_1 (r_split _ 40 ((tables_1_3.drop 40).drop 40) ro_3_2 (r_split _ 40 (((tables_1_3.drop 40).drop 40).drop 40) ro_3_3 (r_split _ 40 ((((tables_1_3.drop 40).drop 40).drop 40).drop 40) ro_3_4 ro_3_5)))))
set_option maxRecDepth 16384 in
theorem ro_4_0 : (tables_1_4.take 40).all (fun c => su_isCode c || c.before start1.args0 rAbout) = true := by decide +kernel
set_option maxRecDepth 16384 in
theorem ro_4_1 : ((tables_1_4.drop 40).take 40).all (fun c => su_isCode c || c.before start1.args0 rAbout) = true := by decide +kernel
set_option maxRecDepth 16384 in
theorem ro_4_2 : (((tables_1_4.drop 40).drop 40).take 40).all (fun c => su_isCode c || c.before start1.args0 rAbout) = true := by decide +kernel
set_option maxRecDepth 16384 in
theorem ro_4_3 : ((((tables_1_4.drop 40).drop 40).drop 40).take 40).all (fun c => su_isCode c || c.before start1.args0 rAbout) = true := by decide +kernel
set_option maxRecDepth 16384 in
theorem ro_4_4 : (((((tables_1_4.drop 40).drop 40).drop 40).drop 40).take 40).all (fun c => su_isCode c || c.before start1.args0 rAbout) = true := by decide +kernel
set_option maxRecDepth 16384 in
theorem ro_4_5 : ((((((tables_1_4.drop 40).drop 40).drop 40).drop 40).drop 40).take 40).all (fun c => su_isCode c || c.before start1.args0 rAbout) = true := by decide +kernel
set_option maxRecDepth 16384 in
theorem ro_4_6 : ((((((tables_1_4.drop 40).drop 40).drop 40).drop 40).drop 40).drop 40).all (fun c => su_isCode c || c.before start1.args0 rAbout) = true := by decide +kernel
theorem ro_4 : tables_1_4.all (fun c => su_isCode c || c.before start1.args0 rAbout) = true := (r_split _ 40 tables_1_4 ro_4_0 (r_split _ 40 (tables_1_4.drop 40) ro_4_1 (r_split _ 40 ((tables_1_4.drop 40).drop 40) ro_4_2 (r_split _ 40 (((tables_1_4.drop 40).drop 40).drop 40) ro_4_3 (r_split _ 40 ((((tables_1_4.drop 40).drop 40).drop 40).drop 40) ro_4_4 (r_split _ 40 (((((tables_1_4.drop 40).drop 40).drop 40).drop 40).drop 40) ro_4_5 ro_4_6))))))
set_option maxRecDepth 16384 in
theorem ro_5_0 : (tables_1_5.take 40).all (fun c => su_isCode c || c.before start1.args0 rAbout) = true := by decide +kernel
set_option maxRecDepth 16384 in
theorem ro_5_1 : ((tables_1_5.drop 40).take 40).all (fun c => su_isCode c || c.before start1.args0 rAbout) = true := by decide +kernel
set_option maxRecDepth 16384 in
theorem ro_5_2 : (((tables_1_5.drop 40).drop 40).take 40).all (fun c => su_isCode c || c.before start1.args0 rAbout) = true := by decide +kernel
set_option maxRecDepth 16384 in
theorem ro_5_3 : ((((tables_1_5.drop 40).drop 40).drop 40).take 40).all (fun c => su_isCode c || c.before start1.args0 rAbout) = true := by decide +kernel
set_option maxRecDepth 16384 in
theorem ro_5_4 : (((((tables_1_5.drop 40).drop 40).drop 40).drop 40).take 40).all (fun c => su_isCode c || c.before start1.args0 rAbout) = true := by decide +kernel
set_option maxRecDepth 16384 in
theorem ro_5_5 : ((((((tables_1_5.drop 40).drop 40).drop 40).drop 40).drop 40).take 40).all (fun c => su_isCode c || c.before start1.args0 rAbout) = true := by decide +kernel
set_option maxRecDepth 16384 in
theorem ro_5_6 : ((((((tables_1_5.drop 40).drop 40).drop 40).drop 40).drop 40).drop 40).all (fun c => su_isCode c || c.before start1.args0 rAbout) = true := by decide +kernel
theorem ro_5 : tables_1_5.all (fun c => su_isCode c || c.before start1.args0 rAbout) = true := (r_split _ 40 tables_1_5 ro_5_0 (r_split _ 40 (tables_1_5.drop 40) ro_5_1 (r_split _ 40 ((tables_1_5.drop 40).drop 40) ro_5_2 (r_split _ 40 (((tables_1_5.drop 40).drop 40).drop 40) ro_5_3 (r_split _ 40 ((((tables_1_5.drop 40).drop 40).drop 40).drop 40) ro_5_4 (r_split _ 40 (((((tables_1_5.drop 40).drop 40).drop 40).drop 40).drop 40) ro_5_5 ro_5_6))))))
set_option maxRecDepth 16384 in
theorem ro_6_0 : tables_1_6.all (fun c => su_isCode c || c.before start1.args0 rAbout) = true := by decide +kernel
theorem ro_6 : tables_1_6.all (fun c => su_isCode c || c.before start1.args0 rAbout) = true := ro_6_0
theorem r_words : ∀ c ∈ (Cond.code x code maxLocals ret :: tables_1), c.before start1.args0 rAbout = true := by
  intro c hc
  cases hq : su_isCode c with
  | true => rw [code_vm r_vm c hq]; exact start1.words c hc
  | false =>
    have go : ∀ l : List Cond, l.all (fun c => su_isCode c || c.before start1.args0 rAbout) = true → c ∈ l → c.before start1.args0 rAbout = true := by
      intro l h hl
      have h1 := List.all_eq_true.mp h c hl
      simpa [hq] using h1
    rcases List.mem_cons.mp hc with h | h
    · rw [h] at hq; exact absurd hq (by simp [su_isCode])
    · have h1 : c ∈ tables_1_1 ++ (tables_1_2 ++ (tables_1_3 ++ (tables_1_4 ++ (tables_1_5 ++ (tables_1_6))))) := h
      rcases List.mem_append.mp h1 with h2 | h1
      · exact go _ ro_1 h2
      rcases List.mem_append.mp h1 with h2 | h1
      · exact go _ ro_2 h2
      rcases List.mem_append.mp h1 with h2 | h1
      · exact go _ ro_3 h2
      rcases List.mem_append.mp h1 with h2 | h1
      · exact go _ ro_4 h2
      rcases List.mem_append.mp h1 with h2 | h1
      · exact go _ ro_5 h2
      exact go _ ro_6 h1
set_option maxRecDepth 16384 in
theorem r_atStart : AtStart classFile x code maxLocals ret World_1 tables_1 room_1 Calls_1 rest_1 Pre_1 launch0 start1.p0 start1.e0 rAbout ⟨0, 0⟩ start1.args0 Lib.HandBits.below0 :=
  ⟨lists_1, trivial, launch0.admits_env _ _ _, launch0.least_env, fairChoices_fair.cas, fairChoices_fair.clock, rfl, by decide +kernel, by decide +kernel,
    (Spec.applies_iff rfl).mpr ⟨rfl, rfl, rfl, by decide +kernel, by decide +kernel, by decide +kernel, launch0.hasRoom_least _ room_1 (by decide +kernel) (by decide +kernel) (by decide +kernel) (by decide +kernel) (by decide +kernel) (by decide +kernel), atoms_intro r_words⟩,
    trivial, (show rest_1_c.before start1.args0 rAbout = true by decide +kernel), (show (Cond.and given_1 narrow_1).before start1.args0 rAbout = true by decide +kernel)⟩
