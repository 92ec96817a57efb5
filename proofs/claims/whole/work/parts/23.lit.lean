section LITS
variable {f : Int → Int} {KA : AV → Prop} {p : Prop} {i : Int} {KI : Int → Prop} {k : Nat}
theorem gf1_0  : gfl (SH 1) 1 0 f KA = KA (vi (f 0)) := by rw [sh1]; exact propext ⟨fun q => q.2, fun q => ⟨rfl, q⟩⟩
theorem pf1_0  : pfl (SH 1) 1 0 p = p := by rw [sh1]; exact propext ⟨fun q => q.2.2, fun q => ⟨rfl, rfl, q⟩⟩
theorem gf1_1  : gfl (SH 1) 1 1 f KA = KA (vi (f 1)) := by rw [sh1]; exact propext ⟨fun q => q.2, fun q => ⟨rfl, q⟩⟩
theorem pf1_1  : pfl (SH 1) 1 1 p = p := by rw [sh1]; exact propext ⟨fun q => q.2.2, fun q => ⟨rfl, rfl, q⟩⟩
theorem gf1_2  : gfl (SH 1) 1 2 f KA = KA (vr 2) := by rw [sh1]; exact propext ⟨fun q => q.2, fun q => ⟨rfl, q⟩⟩
theorem gf1_3  : gfl (SH 1) 1 3 f KA = KA (vr 3) := by rw [sh1]; exact propext ⟨fun q => q.2, fun q => ⟨rfl, q⟩⟩
theorem gf1_4  : gfl (SH 1) 1 4 f KA = KA (vr 4) := by rw [sh1]; exact propext ⟨fun q => q.2, fun q => ⟨rfl, q⟩⟩
theorem gf1_5  : gfl (SH 1) 1 5 f KA = KA (vi (f 5)) := by rw [sh1]; exact propext ⟨fun q => q.2, fun q => ⟨rfl, q⟩⟩
theorem pf1_5  : pfl (SH 1) 1 5 p = p := by rw [sh1]; exact propext ⟨fun q => q.2.2, fun q => ⟨rfl, rfl, q⟩⟩
theorem gf1_6  : gfl (SH 1) 1 6 f KA = KA (vr 5) := by rw [sh1]; exact propext ⟨fun q => q.2, fun q => ⟨rfl, q⟩⟩
theorem gf1_7  : gfl (SH 1) 1 7 f KA = KA (vr 6) := by rw [sh1]; exact propext ⟨fun q => q.2, fun q => ⟨rfl, q⟩⟩
theorem gf1_8  : gfl (SH 1) 1 8 f KA = KA (vr 7) := by rw [sh1]; exact propext ⟨fun q => q.2, fun q => ⟨rfl, q⟩⟩
theorem ic1  : isC (SH 1) 1 = True := by rw [sh1]; exact propext ⟨fun _ => trivial, fun _ => rfl⟩
theorem ar2  : arr (SH 2) false i p = ((0 ≤ i ∧ i < 81) ∧ p) := by rw [sh2]; exact propext ⟨fun q => q.2, fun q => ⟨rfl, q⟩⟩
theorem al2  : aln (SH 2) KI = KI 81 := by rw [sh2]; rfl
theorem ii2 : isI (SH 2) KI = KI 81 := by rw [sh2]; rfl
theorem ar3  : arr (SH 3) false i p = ((0 ≤ i ∧ i < 81) ∧ p) := by rw [sh3]; exact propext ⟨fun q => q.2, fun q => ⟨rfl, q⟩⟩
theorem al3  : aln (SH 3) KI = KI 81 := by rw [sh3]; rfl
theorem ii3 : isI (SH 3) KI = KI 81 := by rw [sh3]; rfl
theorem ar4  : arr (SH 4) false i p = ((0 ≤ i ∧ i < 81) ∧ p) := by rw [sh4]; exact propext ⟨fun q => q.2, fun q => ⟨rfl, q⟩⟩
theorem al4  : aln (SH 4) KI = KI 81 := by rw [sh4]; rfl
theorem ii4 : isI (SH 4) KI = KI 81 := by rw [sh4]; rfl
theorem ar5  : arr (SH 5) false i p = ((0 ≤ i ∧ i < 6) ∧ p) := by rw [sh5]; exact propext ⟨fun q => q.2, fun q => ⟨rfl, q⟩⟩
theorem al5  : aln (SH 5) KI = KI 6 := by rw [sh5]; rfl
theorem ii5 : isI (SH 5) KI = KI 6 := by rw [sh5]; rfl
theorem ar6  : arr (SH 6) false i p = ((0 ≤ i ∧ i < 6) ∧ p) := by rw [sh6]; exact propext ⟨fun q => q.2, fun q => ⟨rfl, q⟩⟩
theorem al6  : aln (SH 6) KI = KI 6 := by rw [sh6]; rfl
theorem ii6 : isI (SH 6) KI = KI 6 := by rw [sh6]; rfl
theorem ar7  : arr (SH 7) false i p = ((0 ≤ i ∧ i < 6) ∧ p) := by rw [sh7]; exact propext ⟨fun q => q.2, fun q => ⟨rfl, q⟩⟩
theorem al7  : aln (SH 7) KI = KI 6 := by rw [sh7]; rfl
theorem ii7 : isI (SH 7) KI = KI 6 := by rw [sh7]; rfl
theorem gf8_0  : gfl (SH 8) 1 0 f KA = KA (vi (f 0)) := by rw [sh8]; exact propext ⟨fun q => q.2, fun q => ⟨rfl, q⟩⟩
theorem pf8_0  : pfl (SH 8) 1 0 p = p := by rw [sh8]; exact propext ⟨fun q => q.2.2, fun q => ⟨rfl, rfl, q⟩⟩
theorem gf8_1  : gfl (SH 8) 1 1 f KA = KA (vi (f 1)) := by rw [sh8]; exact propext ⟨fun q => q.2, fun q => ⟨rfl, q⟩⟩
theorem pf8_1  : pfl (SH 8) 1 1 p = p := by rw [sh8]; exact propext ⟨fun q => q.2.2, fun q => ⟨rfl, rfl, q⟩⟩
theorem gf8_2  : gfl (SH 8) 1 2 f KA = KA (vr 9) := by rw [sh8]; exact propext ⟨fun q => q.2, fun q => ⟨rfl, q⟩⟩
theorem gf8_3  : gfl (SH 8) 1 3 f KA = KA (vr 10) := by rw [sh8]; exact propext ⟨fun q => q.2, fun q => ⟨rfl, q⟩⟩
theorem gf8_4  : gfl (SH 8) 1 4 f KA = KA (vr 11) := by rw [sh8]; exact propext ⟨fun q => q.2, fun q => ⟨rfl, q⟩⟩
theorem gf8_5  : gfl (SH 8) 1 5 f KA = KA (vi (f 5)) := by rw [sh8]; exact propext ⟨fun q => q.2, fun q => ⟨rfl, q⟩⟩
theorem pf8_5  : pfl (SH 8) 1 5 p = p := by rw [sh8]; exact propext ⟨fun q => q.2.2, fun q => ⟨rfl, rfl, q⟩⟩
theorem gf8_6  : gfl (SH 8) 1 6 f KA = KA (vr 12) := by rw [sh8]; exact propext ⟨fun q => q.2, fun q => ⟨rfl, q⟩⟩
theorem gf8_7  : gfl (SH 8) 1 7 f KA = KA (vr 13) := by rw [sh8]; exact propext ⟨fun q => q.2, fun q => ⟨rfl, q⟩⟩
theorem gf8_8  : gfl (SH 8) 1 8 f KA = KA (vr 14) := by rw [sh8]; exact propext ⟨fun q => q.2, fun q => ⟨rfl, q⟩⟩
theorem ic8  : isC (SH 8) 1 = True := by rw [sh8]; exact propext ⟨fun _ => trivial, fun _ => rfl⟩
theorem ar9  : arr (SH 9) false i p = ((0 ≤ i ∧ i < 81) ∧ p) := by rw [sh9]; exact propext ⟨fun q => q.2, fun q => ⟨rfl, q⟩⟩
theorem al9  : aln (SH 9) KI = KI 81 := by rw [sh9]; rfl
theorem ii9 : isI (SH 9) KI = KI 81 := by rw [sh9]; rfl
theorem ar10  : arr (SH 10) false i p = ((0 ≤ i ∧ i < 81) ∧ p) := by rw [sh10]; exact propext ⟨fun q => q.2, fun q => ⟨rfl, q⟩⟩
theorem al10  : aln (SH 10) KI = KI 81 := by rw [sh10]; rfl
theorem ii10 : isI (SH 10) KI = KI 81 := by rw [sh10]; rfl
theorem ar11  : arr (SH 11) false i p = ((0 ≤ i ∧ i < 81) ∧ p) := by rw [sh11]; exact propext ⟨fun q => q.2, fun q => ⟨rfl, q⟩⟩
theorem al11  : aln (SH 11) KI = KI 81 := by rw [sh11]; rfl
theorem ii11 : isI (SH 11) KI = KI 81 := by rw [sh11]; rfl
theorem ar12  : arr (SH 12) false i p = ((0 ≤ i ∧ i < 6) ∧ p) := by rw [sh12]; exact propext ⟨fun q => q.2, fun q => ⟨rfl, q⟩⟩
theorem al12  : aln (SH 12) KI = KI 6 := by rw [sh12]; rfl
theorem ii12 : isI (SH 12) KI = KI 6 := by rw [sh12]; rfl
theorem ar13  : arr (SH 13) false i p = ((0 ≤ i ∧ i < 6) ∧ p) := by rw [sh13]; exact propext ⟨fun q => q.2, fun q => ⟨rfl, q⟩⟩
theorem al13  : aln (SH 13) KI = KI 6 := by rw [sh13]; rfl
theorem ii13 : isI (SH 13) KI = KI 6 := by rw [sh13]; rfl
theorem ar14  : arr (SH 14) false i p = ((0 ≤ i ∧ i < 6) ∧ p) := by rw [sh14]; exact propext ⟨fun q => q.2, fun q => ⟨rfl, q⟩⟩
theorem al14  : aln (SH 14) KI = KI 6 := by rw [sh14]; rfl
theorem ii14 : isI (SH 14) KI = KI 6 := by rw [sh14]; rfl
theorem gf157_0  : gfl (SH 157) 3 0 f KA = KA (vr 158) := by rw [sh157]; exact propext ⟨fun q => q.2, fun q => ⟨rfl, q⟩⟩
theorem gf157_1  : gfl (SH 157) 3 1 f KA = KA (vi (f 1)) := by rw [sh157]; exact propext ⟨fun q => q.2, fun q => ⟨rfl, q⟩⟩
theorem pf157_1  : pfl (SH 157) 3 1 p = p := by rw [sh157]; exact propext ⟨fun q => q.2.2, fun q => ⟨rfl, rfl, q⟩⟩
theorem gf157_2  : gfl (SH 157) 3 2 f KA = KA (vi (f 2)) := by rw [sh157]; exact propext ⟨fun q => q.2, fun q => ⟨rfl, q⟩⟩
theorem pf157_2  : pfl (SH 157) 3 2 p = p := by rw [sh157]; exact propext ⟨fun q => q.2.2, fun q => ⟨rfl, rfl, q⟩⟩
theorem ic157  : isC (SH 157) 3 = True := by rw [sh157]; exact propext ⟨fun _ => trivial, fun _ => rfl⟩
theorem ar158  : arr (SH 158) false i p = ((0 ≤ i ∧ i < 324) ∧ p) := by rw [sh158]; exact propext ⟨fun q => q.2, fun q => ⟨rfl, q⟩⟩
theorem al158  : aln (SH 158) KI = KI 324 := by rw [sh158]; rfl
theorem ii158 : isI (SH 158) KI = KI 324 := by rw [sh158]; rfl
theorem gf159_0  : gfl (SH 159) 6 0 f KA = KA (vr 160) := by rw [sh159]; exact propext ⟨fun q => q.2, fun q => ⟨rfl, q⟩⟩
theorem gf159_1  : gfl (SH 159) 6 1 f KA = KA (vi (f 1)) := by rw [sh159]; exact propext ⟨fun q => q.2, fun q => ⟨rfl, q⟩⟩
theorem pf159_1  : pfl (SH 159) 6 1 p = p := by rw [sh159]; exact propext ⟨fun q => q.2.2, fun q => ⟨rfl, rfl, q⟩⟩
theorem gf159_2  : gfl (SH 159) 6 2 f KA = KA (vr 161) := by rw [sh159]; exact propext ⟨fun q => q.2, fun q => ⟨rfl, q⟩⟩
theorem gf159_3  : gfl (SH 159) 6 3 f KA = KA (vr 162) := by rw [sh159]; exact propext ⟨fun q => q.2, fun q => ⟨rfl, q⟩⟩
theorem gf159_4  : gfl (SH 159) 6 4 f KA = KA (vr 163) := by rw [sh159]; exact propext ⟨fun q => q.2, fun q => ⟨rfl, q⟩⟩
theorem gf159_5  : gfl (SH 159) 6 5 f KA = KA (vi (f 5)) := by rw [sh159]; exact propext ⟨fun q => q.2, fun q => ⟨rfl, q⟩⟩
theorem pf159_5  : pfl (SH 159) 6 5 p = p := by rw [sh159]; exact propext ⟨fun q => q.2.2, fun q => ⟨rfl, rfl, q⟩⟩
theorem gf159_6  : gfl (SH 159) 6 6 f KA = KA (vi (f 6)) := by rw [sh159]; exact propext ⟨fun q => q.2, fun q => ⟨rfl, q⟩⟩
theorem pf159_6  : pfl (SH 159) 6 6 p = p := by rw [sh159]; exact propext ⟨fun q => q.2.2, fun q => ⟨rfl, rfl, q⟩⟩
theorem gf159_7  : gfl (SH 159) 6 7 f KA = KA (vr 164) := by rw [sh159]; exact propext ⟨fun q => q.2, fun q => ⟨rfl, q⟩⟩
theorem ic159  : isC (SH 159) 6 = True := by rw [sh159]; exact propext ⟨fun _ => trivial, fun _ => rfl⟩
theorem ar160  : arr (SH 160) false i p = ((0 ≤ i ∧ i < 324) ∧ p) := by rw [sh160]; exact propext ⟨fun q => q.2, fun q => ⟨rfl, q⟩⟩
theorem al160  : aln (SH 160) KI = KI 324 := by rw [sh160]; rfl
theorem ii160 : isI (SH 160) KI = KI 324 := by rw [sh160]; rfl
theorem ar161  : arr (SH 161) false i p = ((0 ≤ i ∧ i < 324) ∧ p) := by rw [sh161]; exact propext ⟨fun q => q.2, fun q => ⟨rfl, q⟩⟩
theorem al161  : aln (SH 161) KI = KI 324 := by rw [sh161]; rfl
theorem ii161 : isI (SH 161) KI = KI 324 := by rw [sh161]; rfl
theorem ar162  : arr (SH 162) false i p = ((0 ≤ i ∧ i < 81) ∧ p) := by rw [sh162]; exact propext ⟨fun q => q.2, fun q => ⟨rfl, q⟩⟩
theorem al162  : aln (SH 162) KI = KI 81 := by rw [sh162]; rfl
theorem ii162 : isI (SH 162) KI = KI 81 := by rw [sh162]; rfl
theorem ar163  : arr (SH 163) false i p = ((0 ≤ i ∧ i < 81) ∧ p) := by rw [sh163]; exact propext ⟨fun q => q.2, fun q => ⟨rfl, q⟩⟩
theorem al163  : aln (SH 163) KI = KI 81 := by rw [sh163]; rfl
theorem ii163 : isI (SH 163) KI = KI 81 := by rw [sh163]; rfl
theorem ar164  : arr (SH 164) false i p = ((0 ≤ i ∧ i < 81) ∧ p) := by rw [sh164]; exact propext ⟨fun q => q.2, fun q => ⟨rfl, q⟩⟩
theorem al164  : aln (SH 164) KI = KI 81 := by rw [sh164]; rfl
theorem ii164 : isI (SH 164) KI = KI 81 := by rw [sh164]; rfl
theorem gf169_0  : gfl (SH 169) 3 0 f KA = KA (vr 170) := by rw [sh169]; exact propext ⟨fun q => q.2, fun q => ⟨rfl, q⟩⟩
theorem gf169_1  : gfl (SH 169) 3 1 f KA = KA (vi (f 1)) := by rw [sh169]; exact propext ⟨fun q => q.2, fun q => ⟨rfl, q⟩⟩
theorem pf169_1  : pfl (SH 169) 3 1 p = p := by rw [sh169]; exact propext ⟨fun q => q.2.2, fun q => ⟨rfl, rfl, q⟩⟩
theorem gf169_2  : gfl (SH 169) 3 2 f KA = KA (vi (f 2)) := by rw [sh169]; exact propext ⟨fun q => q.2, fun q => ⟨rfl, q⟩⟩
theorem pf169_2  : pfl (SH 169) 3 2 p = p := by rw [sh169]; exact propext ⟨fun q => q.2.2, fun q => ⟨rfl, rfl, q⟩⟩
theorem ic169  : isC (SH 169) 3 = True := by rw [sh169]; exact propext ⟨fun _ => trivial, fun _ => rfl⟩
theorem ar170  : arr (SH 170) false i p = ((0 ≤ i ∧ i < 324) ∧ p) := by rw [sh170]; exact propext ⟨fun q => q.2, fun q => ⟨rfl, q⟩⟩
theorem al170  : aln (SH 170) KI = KI 324 := by rw [sh170]; rfl
theorem ii170 : isI (SH 170) KI = KI 324 := by rw [sh170]; rfl
theorem gf173_0  : gfl (SH 173) 6 0 f KA = KA (vr 174) := by rw [sh173]; exact propext ⟨fun q => q.2, fun q => ⟨rfl, q⟩⟩
theorem gf173_1  : gfl (SH 173) 6 1 f KA = KA (vi (f 1)) := by rw [sh173]; exact propext ⟨fun q => q.2, fun q => ⟨rfl, q⟩⟩
theorem pf173_1  : pfl (SH 173) 6 1 p = p := by rw [sh173]; exact propext ⟨fun q => q.2.2, fun q => ⟨rfl, rfl, q⟩⟩
theorem gf173_2  : gfl (SH 173) 6 2 f KA = KA (vr 175) := by rw [sh173]; exact propext ⟨fun q => q.2, fun q => ⟨rfl, q⟩⟩
theorem gf173_3  : gfl (SH 173) 6 3 f KA = KA (vr 176) := by rw [sh173]; exact propext ⟨fun q => q.2, fun q => ⟨rfl, q⟩⟩
theorem gf173_4  : gfl (SH 173) 6 4 f KA = KA (vr 177) := by rw [sh173]; exact propext ⟨fun q => q.2, fun q => ⟨rfl, q⟩⟩
theorem gf173_5  : gfl (SH 173) 6 5 f KA = KA (vi (f 5)) := by rw [sh173]; exact propext ⟨fun q => q.2, fun q => ⟨rfl, q⟩⟩
theorem pf173_5  : pfl (SH 173) 6 5 p = p := by rw [sh173]; exact propext ⟨fun q => q.2.2, fun q => ⟨rfl, rfl, q⟩⟩
theorem gf173_6  : gfl (SH 173) 6 6 f KA = KA (vi (f 6)) := by rw [sh173]; exact propext ⟨fun q => q.2, fun q => ⟨rfl, q⟩⟩
theorem pf173_6  : pfl (SH 173) 6 6 p = p := by rw [sh173]; exact propext ⟨fun q => q.2.2, fun q => ⟨rfl, rfl, q⟩⟩
theorem gf173_7  : gfl (SH 173) 6 7 f KA = KA (vr 178) := by rw [sh173]; exact propext ⟨fun q => q.2, fun q => ⟨rfl, q⟩⟩
theorem ic173  : isC (SH 173) 6 = True := by rw [sh173]; exact propext ⟨fun _ => trivial, fun _ => rfl⟩
theorem ar174  : arr (SH 174) false i p = ((0 ≤ i ∧ i < 324) ∧ p) := by rw [sh174]; exact propext ⟨fun q => q.2, fun q => ⟨rfl, q⟩⟩
theorem al174  : aln (SH 174) KI = KI 324 := by rw [sh174]; rfl
theorem ii174 : isI (SH 174) KI = KI 324 := by rw [sh174]; rfl
theorem ar175  : arr (SH 175) false i p = ((0 ≤ i ∧ i < 324) ∧ p) := by rw [sh175]; exact propext ⟨fun q => q.2, fun q => ⟨rfl, q⟩⟩
theorem al175  : aln (SH 175) KI = KI 324 := by rw [sh175]; rfl
theorem ii175 : isI (SH 175) KI = KI 324 := by rw [sh175]; rfl
theorem ar176  : arr (SH 176) false i p = ((0 ≤ i ∧ i < 81) ∧ p) := by rw [sh176]; exact propext ⟨fun q => q.2, fun q => ⟨rfl, q⟩⟩
theorem al176  : aln (SH 176) KI = KI 81 := by rw [sh176]; rfl
theorem ii176 : isI (SH 176) KI = KI 81 := by rw [sh176]; rfl
theorem ar177  : arr (SH 177) false i p = ((0 ≤ i ∧ i < 81) ∧ p) := by rw [sh177]; exact propext ⟨fun q => q.2, fun q => ⟨rfl, q⟩⟩
theorem al177  : aln (SH 177) KI = KI 81 := by rw [sh177]; rfl
theorem ii177 : isI (SH 177) KI = KI 81 := by rw [sh177]; rfl
theorem ar178  : arr (SH 178) false i p = ((0 ≤ i ∧ i < 81) ∧ p) := by rw [sh178]; exact propext ⟨fun q => q.2, fun q => ⟨rfl, q⟩⟩
theorem al178  : aln (SH 178) KI = KI 81 := by rw [sh178]; rfl
theorem ii178 : isI (SH 178) KI = KI 81 := by rw [sh178]; rfl
theorem gf180_0  : gfl (SH 180) 1 0 f KA = KA (vi (f 0)) := by rw [sh180]; exact propext ⟨fun q => q.2, fun q => ⟨rfl, q⟩⟩
theorem pf180_0  : pfl (SH 180) 1 0 p = p := by rw [sh180]; exact propext ⟨fun q => q.2.2, fun q => ⟨rfl, rfl, q⟩⟩
theorem gf180_1  : gfl (SH 180) 1 1 f KA = KA (vi (f 1)) := by rw [sh180]; exact propext ⟨fun q => q.2, fun q => ⟨rfl, q⟩⟩
theorem pf180_1  : pfl (SH 180) 1 1 p = p := by rw [sh180]; exact propext ⟨fun q => q.2.2, fun q => ⟨rfl, rfl, q⟩⟩
theorem gf180_2  : gfl (SH 180) 1 2 f KA = KA (vr 181) := by rw [sh180]; exact propext ⟨fun q => q.2, fun q => ⟨rfl, q⟩⟩
theorem gf180_3  : gfl (SH 180) 1 3 f KA = KA (vr 182) := by rw [sh180]; exact propext ⟨fun q => q.2, fun q => ⟨rfl, q⟩⟩
theorem gf180_4  : gfl (SH 180) 1 4 f KA = KA (vr 183) := by rw [sh180]; exact propext ⟨fun q => q.2, fun q => ⟨rfl, q⟩⟩
theorem gf180_5  : gfl (SH 180) 1 5 f KA = KA (vi (f 5)) := by rw [sh180]; exact propext ⟨fun q => q.2, fun q => ⟨rfl, q⟩⟩
theorem pf180_5  : pfl (SH 180) 1 5 p = p := by rw [sh180]; exact propext ⟨fun q => q.2.2, fun q => ⟨rfl, rfl, q⟩⟩
theorem gf180_6  : gfl (SH 180) 1 6 f KA = KA (vr 184) := by rw [sh180]; exact propext ⟨fun q => q.2, fun q => ⟨rfl, q⟩⟩
theorem gf180_7  : gfl (SH 180) 1 7 f KA = KA (vr 185) := by rw [sh180]; exact propext ⟨fun q => q.2, fun q => ⟨rfl, q⟩⟩
theorem gf180_8  : gfl (SH 180) 1 8 f KA = KA (vr 186) := by rw [sh180]; exact propext ⟨fun q => q.2, fun q => ⟨rfl, q⟩⟩
theorem ic180  : isC (SH 180) 1 = True := by rw [sh180]; exact propext ⟨fun _ => trivial, fun _ => rfl⟩
theorem ar181  : arr (SH 181) false i p = ((0 ≤ i ∧ i < 81) ∧ p) := by rw [sh181]; exact propext ⟨fun q => q.2, fun q => ⟨rfl, q⟩⟩
theorem al181  : aln (SH 181) KI = KI 81 := by rw [sh181]; rfl
theorem ii181 : isI (SH 181) KI = KI 81 := by rw [sh181]; rfl
theorem ar182  : arr (SH 182) false i p = ((0 ≤ i ∧ i < 81) ∧ p) := by rw [sh182]; exact propext ⟨fun q => q.2, fun q => ⟨rfl, q⟩⟩
theorem al182  : aln (SH 182) KI = KI 81 := by rw [sh182]; rfl
theorem ii182 : isI (SH 182) KI = KI 81 := by rw [sh182]; rfl
theorem ar183  : arr (SH 183) false i p = ((0 ≤ i ∧ i < 81) ∧ p) := by rw [sh183]; exact propext ⟨fun q => q.2, fun q => ⟨rfl, q⟩⟩
theorem al183  : aln (SH 183) KI = KI 81 := by rw [sh183]; rfl
theorem ii183 : isI (SH 183) KI = KI 81 := by rw [sh183]; rfl
theorem ar184  : arr (SH 184) false i p = ((0 ≤ i ∧ i < 6) ∧ p) := by rw [sh184]; exact propext ⟨fun q => q.2, fun q => ⟨rfl, q⟩⟩
theorem al184  : aln (SH 184) KI = KI 6 := by rw [sh184]; rfl
theorem ii184 : isI (SH 184) KI = KI 6 := by rw [sh184]; rfl
theorem ar185  : arr (SH 185) false i p = ((0 ≤ i ∧ i < 6) ∧ p) := by rw [sh185]; exact propext ⟨fun q => q.2, fun q => ⟨rfl, q⟩⟩
theorem al185  : aln (SH 185) KI = KI 6 := by rw [sh185]; rfl
theorem ii185 : isI (SH 185) KI = KI 6 := by rw [sh185]; rfl
theorem ar186  : arr (SH 186) false i p = ((0 ≤ i ∧ i < 6) ∧ p) := by rw [sh186]; exact propext ⟨fun q => q.2, fun q => ⟨rfl, q⟩⟩
theorem al186  : aln (SH 186) KI = KI 6 := by rw [sh186]; rfl
theorem ii186 : isI (SH 186) KI = KI 6 := by rw [sh186]; rfl
theorem gf187_0  : gfl (SH 187) 6 0 f KA = KA (vr 188) := by rw [sh187]; exact propext ⟨fun q => q.2, fun q => ⟨rfl, q⟩⟩
theorem gf187_1  : gfl (SH 187) 6 1 f KA = KA (vi (f 1)) := by rw [sh187]; exact propext ⟨fun q => q.2, fun q => ⟨rfl, q⟩⟩
theorem pf187_1  : pfl (SH 187) 6 1 p = p := by rw [sh187]; exact propext ⟨fun q => q.2.2, fun q => ⟨rfl, rfl, q⟩⟩
theorem gf187_2  : gfl (SH 187) 6 2 f KA = KA (vr 189) := by rw [sh187]; exact propext ⟨fun q => q.2, fun q => ⟨rfl, q⟩⟩
theorem gf187_3  : gfl (SH 187) 6 3 f KA = KA (vr 190) := by rw [sh187]; exact propext ⟨fun q => q.2, fun q => ⟨rfl, q⟩⟩
theorem gf187_4  : gfl (SH 187) 6 4 f KA = KA (vr 191) := by rw [sh187]; exact propext ⟨fun q => q.2, fun q => ⟨rfl, q⟩⟩
theorem gf187_5  : gfl (SH 187) 6 5 f KA = KA (vi (f 5)) := by rw [sh187]; exact propext ⟨fun q => q.2, fun q => ⟨rfl, q⟩⟩
theorem pf187_5  : pfl (SH 187) 6 5 p = p := by rw [sh187]; exact propext ⟨fun q => q.2.2, fun q => ⟨rfl, rfl, q⟩⟩
theorem gf187_6  : gfl (SH 187) 6 6 f KA = KA (vi (f 6)) := by rw [sh187]; exact propext ⟨fun q => q.2, fun q => ⟨rfl, q⟩⟩
theorem pf187_6  : pfl (SH 187) 6 6 p = p := by rw [sh187]; exact propext ⟨fun q => q.2.2, fun q => ⟨rfl, rfl, q⟩⟩
theorem gf187_7  : gfl (SH 187) 6 7 f KA = KA (vr 192) := by rw [sh187]; exact propext ⟨fun q => q.2, fun q => ⟨rfl, q⟩⟩
theorem ic187  : isC (SH 187) 6 = True := by rw [sh187]; exact propext ⟨fun _ => trivial, fun _ => rfl⟩
theorem ar188  : arr (SH 188) false i p = ((0 ≤ i ∧ i < 324) ∧ p) := by rw [sh188]; exact propext ⟨fun q => q.2, fun q => ⟨rfl, q⟩⟩
theorem al188  : aln (SH 188) KI = KI 324 := by rw [sh188]; rfl
theorem ii188 : isI (SH 188) KI = KI 324 := by rw [sh188]; rfl
theorem ar189  : arr (SH 189) false i p = ((0 ≤ i ∧ i < 324) ∧ p) := by rw [sh189]; exact propext ⟨fun q => q.2, fun q => ⟨rfl, q⟩⟩
theorem al189  : aln (SH 189) KI = KI 324 := by rw [sh189]; rfl
theorem ii189 : isI (SH 189) KI = KI 324 := by rw [sh189]; rfl
theorem ar190  : arr (SH 190) false i p = ((0 ≤ i ∧ i < 81) ∧ p) := by rw [sh190]; exact propext ⟨fun q => q.2, fun q => ⟨rfl, q⟩⟩
theorem al190  : aln (SH 190) KI = KI 81 := by rw [sh190]; rfl
theorem ii190 : isI (SH 190) KI = KI 81 := by rw [sh190]; rfl
theorem ar191  : arr (SH 191) false i p = ((0 ≤ i ∧ i < 81) ∧ p) := by rw [sh191]; exact propext ⟨fun q => q.2, fun q => ⟨rfl, q⟩⟩
theorem al191  : aln (SH 191) KI = KI 81 := by rw [sh191]; rfl
theorem ii191 : isI (SH 191) KI = KI 81 := by rw [sh191]; rfl
theorem ar192  : arr (SH 192) false i p = ((0 ≤ i ∧ i < 81) ∧ p) := by rw [sh192]; exact propext ⟨fun q => q.2, fun q => ⟨rfl, q⟩⟩
theorem al192  : aln (SH 192) KI = KI 81 := by rw [sh192]; rfl
theorem ii192 : isI (SH 192) KI = KI 81 := by rw [sh192]; rfl
theorem gf194_0  : gfl (SH 194) 9 0 f KA = KA (vr 195) := by rw [sh194]; exact propext ⟨fun q => q.2, fun q => ⟨rfl, q⟩⟩
theorem gf194_1  : gfl (SH 194) 9 1 f KA = KA (vi (f 1)) := by rw [sh194]; exact propext ⟨fun q => q.2, fun q => ⟨rfl, q⟩⟩
theorem pf194_1  : pfl (SH 194) 9 1 p = p := by rw [sh194]; exact propext ⟨fun q => q.2.2, fun q => ⟨rfl, rfl, q⟩⟩
theorem gf194_2  : gfl (SH 194) 9 2 f KA = KA (vr 196) := by rw [sh194]; exact propext ⟨fun q => q.2, fun q => ⟨rfl, q⟩⟩
theorem ic194  : isC (SH 194) 9 = True := by rw [sh194]; exact propext ⟨fun _ => trivial, fun _ => rfl⟩
theorem ar195  : arr (SH 195) false i p = ((0 ≤ i ∧ i < 81) ∧ p) := by rw [sh195]; exact propext ⟨fun q => q.2, fun q => ⟨rfl, q⟩⟩
theorem al195  : aln (SH 195) KI = KI 81 := by rw [sh195]; rfl
theorem ii195 : isI (SH 195) KI = KI 81 := by rw [sh195]; rfl
theorem ar196  : arr (SH 196) false i p = ((0 ≤ i ∧ i < 81) ∧ p) := by rw [sh196]; exact propext ⟨fun q => q.2, fun q => ⟨rfl, q⟩⟩
theorem al196  : aln (SH 196) KI = KI 81 := by rw [sh196]; rfl
theorem ii196 : isI (SH 196) KI = KI 81 := by rw [sh196]; rfl
theorem gf198_0  : gfl (SH 198) 9 0 f KA = KA (vr 199) := by rw [sh198]; exact propext ⟨fun q => q.2, fun q => ⟨rfl, q⟩⟩
theorem gf198_1  : gfl (SH 198) 9 1 f KA = KA (vi (f 1)) := by rw [sh198]; exact propext ⟨fun q => q.2, fun q => ⟨rfl, q⟩⟩
theorem pf198_1  : pfl (SH 198) 9 1 p = p := by rw [sh198]; exact propext ⟨fun q => q.2.2, fun q => ⟨rfl, rfl, q⟩⟩
theorem gf198_2  : gfl (SH 198) 9 2 f KA = KA (vr 200) := by rw [sh198]; exact propext ⟨fun q => q.2, fun q => ⟨rfl, q⟩⟩
theorem ic198  : isC (SH 198) 9 = True := by rw [sh198]; exact propext ⟨fun _ => trivial, fun _ => rfl⟩
theorem ar199  : arr (SH 199) false i p = ((0 ≤ i ∧ i < 81) ∧ p) := by rw [sh199]; exact propext ⟨fun q => q.2, fun q => ⟨rfl, q⟩⟩
theorem al199  : aln (SH 199) KI = KI 81 := by rw [sh199]; rfl
theorem ii199 : isI (SH 199) KI = KI 81 := by rw [sh199]; rfl
theorem ar200  : arr (SH 200) false i p = ((0 ≤ i ∧ i < 81) ∧ p) := by rw [sh200]; exact propext ⟨fun q => q.2, fun q => ⟨rfl, q⟩⟩
theorem al200  : aln (SH 200) KI = KI 81 := by rw [sh200]; rfl
theorem ii200 : isI (SH 200) KI = KI 81 := by rw [sh200]; rfl
theorem gf201_0  : gfl (SH 201) 6 0 f KA = KA (vr 202) := by rw [sh201]; exact propext ⟨fun q => q.2, fun q => ⟨rfl, q⟩⟩
theorem gf201_1  : gfl (SH 201) 6 1 f KA = KA (vi (f 1)) := by rw [sh201]; exact propext ⟨fun q => q.2, fun q => ⟨rfl, q⟩⟩
theorem pf201_1  : pfl (SH 201) 6 1 p = p := by rw [sh201]; exact propext ⟨fun q => q.2.2, fun q => ⟨rfl, rfl, q⟩⟩
theorem gf201_2  : gfl (SH 201) 6 2 f KA = KA (vr 203) := by rw [sh201]; exact propext ⟨fun q => q.2, fun q => ⟨rfl, q⟩⟩
theorem gf201_3  : gfl (SH 201) 6 3 f KA = KA (vr 204) := by rw [sh201]; exact propext ⟨fun q => q.2, fun q => ⟨rfl, q⟩⟩
theorem gf201_4  : gfl (SH 201) 6 4 f KA = KA (vr 205) := by rw [sh201]; exact propext ⟨fun q => q.2, fun q => ⟨rfl, q⟩⟩
theorem gf201_5  : gfl (SH 201) 6 5 f KA = KA (vi (f 5)) := by rw [sh201]; exact propext ⟨fun q => q.2, fun q => ⟨rfl, q⟩⟩
theorem pf201_5  : pfl (SH 201) 6 5 p = p := by rw [sh201]; exact propext ⟨fun q => q.2.2, fun q => ⟨rfl, rfl, q⟩⟩
theorem gf201_6  : gfl (SH 201) 6 6 f KA = KA (vi (f 6)) := by rw [sh201]; exact propext ⟨fun q => q.2, fun q => ⟨rfl, q⟩⟩
theorem pf201_6  : pfl (SH 201) 6 6 p = p := by rw [sh201]; exact propext ⟨fun q => q.2.2, fun q => ⟨rfl, rfl, q⟩⟩
theorem gf201_7  : gfl (SH 201) 6 7 f KA = KA (vr 206) := by rw [sh201]; exact propext ⟨fun q => q.2, fun q => ⟨rfl, q⟩⟩
theorem ic201  : isC (SH 201) 6 = True := by rw [sh201]; exact propext ⟨fun _ => trivial, fun _ => rfl⟩
theorem ar202  : arr (SH 202) false i p = ((0 ≤ i ∧ i < 324) ∧ p) := by rw [sh202]; exact propext ⟨fun q => q.2, fun q => ⟨rfl, q⟩⟩
theorem al202  : aln (SH 202) KI = KI 324 := by rw [sh202]; rfl
theorem ii202 : isI (SH 202) KI = KI 324 := by rw [sh202]; rfl
theorem ar203  : arr (SH 203) false i p = ((0 ≤ i ∧ i < 324) ∧ p) := by rw [sh203]; exact propext ⟨fun q => q.2, fun q => ⟨rfl, q⟩⟩
theorem al203  : aln (SH 203) KI = KI 324 := by rw [sh203]; rfl
theorem ii203 : isI (SH 203) KI = KI 324 := by rw [sh203]; rfl
theorem ar204  : arr (SH 204) false i p = ((0 ≤ i ∧ i < 81) ∧ p) := by rw [sh204]; exact propext ⟨fun q => q.2, fun q => ⟨rfl, q⟩⟩
theorem al204  : aln (SH 204) KI = KI 81 := by rw [sh204]; rfl
theorem ii204 : isI (SH 204) KI = KI 81 := by rw [sh204]; rfl
theorem ar205  : arr (SH 205) false i p = ((0 ≤ i ∧ i < 81) ∧ p) := by rw [sh205]; exact propext ⟨fun q => q.2, fun q => ⟨rfl, q⟩⟩
theorem al205  : aln (SH 205) KI = KI 81 := by rw [sh205]; rfl
theorem ii205 : isI (SH 205) KI = KI 81 := by rw [sh205]; rfl
theorem ar206  : arr (SH 206) false i p = ((0 ≤ i ∧ i < 81) ∧ p) := by rw [sh206]; exact propext ⟨fun q => q.2, fun q => ⟨rfl, q⟩⟩
theorem al206  : aln (SH 206) KI = KI 81 := by rw [sh206]; rfl
theorem ii206 : isI (SH 206) KI = KI 81 := by rw [sh206]; rfl
end LITS
