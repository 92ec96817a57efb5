section SHP
variable {f : Int → Int} {KA : AV → Prop} {p : Prop} {i : Int} {KI : Int → Prop} {k : Nat}
theorem gf0_0  : gfl (SH 0) 10 0 f KA = KA (vr 1) := by rw [sh0]; exact propext ⟨fun q => q.2, fun q => ⟨rfl, q⟩⟩
theorem gf0_1  : gfl (SH 0) 10 1 f KA = KA (vr 8) := by rw [sh0]; exact propext ⟨fun q => q.2, fun q => ⟨rfl, q⟩⟩
theorem gf0_2  : gfl (SH 0) 10 2 f KA = KA (vr 15) := by rw [sh0]; exact propext ⟨fun q => q.2, fun q => ⟨rfl, q⟩⟩
theorem gf0_3  : gfl (SH 0) 10 3 f KA = KA (vr 157) := by rw [sh0]; exact propext ⟨fun q => q.2, fun q => ⟨rfl, q⟩⟩
theorem gf0_4  : gfl (SH 0) 10 4 f KA = KA (vr 159) := by rw [sh0]; exact propext ⟨fun q => q.2, fun q => ⟨rfl, q⟩⟩
theorem gf0_5  : gfl (SH 0) 10 5 f KA = KA (vr 165) := by rw [sh0]; exact propext ⟨fun q => q.2, fun q => ⟨rfl, q⟩⟩
theorem gf0_6  : gfl (SH 0) 10 6 f KA = KA (vr 171) := by rw [sh0]; exact propext ⟨fun q => q.2, fun q => ⟨rfl, q⟩⟩
theorem gf0_7  : gfl (SH 0) 10 7 f KA = KA (vr 179) := by rw [sh0]; exact propext ⟨fun q => q.2, fun q => ⟨rfl, q⟩⟩
theorem gf0_8  : gfl (SH 0) 10 8 f KA = KA (vr 194) := by rw [sh0]; exact propext ⟨fun q => q.2, fun q => ⟨rfl, q⟩⟩
theorem gf0_9  : gfl (SH 0) 10 9 f KA = KA (vr 197) := by rw [sh0]; exact propext ⟨fun q => q.2, fun q => ⟨rfl, q⟩⟩
theorem gf0_10  : gfl (SH 0) 10 10 f KA = KA (vr 208) := by rw [sh0]; exact propext ⟨fun q => q.2, fun q => ⟨rfl, q⟩⟩
theorem gf0_11  : gfl (SH 0) 10 11 f KA = KA (vi (f 11)) := by rw [sh0]; exact propext ⟨fun q => q.2, fun q => ⟨rfl, q⟩⟩
theorem pf0_11  : pfl (SH 0) 10 11 p = p := by rw [sh0]; exact propext ⟨fun q => q.2.2, fun q => ⟨rfl, rfl, q⟩⟩
theorem ic0  : isC (SH 0) 10 = True := by rw [sh0]; exact propext ⟨fun _ => trivial, fun _ => rfl⟩
theorem gf15_0  : gfl (SH 15) 2 0 f KA = KA (vr 16) := by rw [sh15]; exact propext ⟨fun q => q.2, fun q => ⟨rfl, q⟩⟩
theorem gf15_1  : gfl (SH 15) 2 1 f KA = KA (vi (f 1)) := by rw [sh15]; exact propext ⟨fun q => q.2, fun q => ⟨rfl, q⟩⟩
theorem pf15_1  : pfl (SH 15) 2 1 p = p := by rw [sh15]; exact propext ⟨fun q => q.2.2, fun q => ⟨rfl, rfl, q⟩⟩
theorem gf15_2  : gfl (SH 15) 2 2 f KA = KA (vi (f 2)) := by rw [sh15]; exact propext ⟨fun q => q.2, fun q => ⟨rfl, q⟩⟩
theorem pf15_2  : pfl (SH 15) 2 2 p = p := by rw [sh15]; exact propext ⟨fun q => q.2.2, fun q => ⟨rfl, rfl, q⟩⟩
theorem ic15  : isC (SH 15) 2 = True := by rw [sh15]; exact propext ⟨fun _ => trivial, fun _ => rfl⟩
theorem gf165_0  : gfl (SH 165) 4 0 f KA = KA (vr 166) := by rw [sh165]; exact propext ⟨fun q => q.2, fun q => ⟨rfl, q⟩⟩
theorem gf165_1  : gfl (SH 165) 4 1 f KA = KA (vr 167) := by rw [sh165]; exact propext ⟨fun q => q.2, fun q => ⟨rfl, q⟩⟩
theorem gf165_2  : gfl (SH 165) 4 2 f KA = KA (vi (f 2)) := by rw [sh165]; exact propext ⟨fun q => q.2, fun q => ⟨rfl, q⟩⟩
theorem pf165_2  : pfl (SH 165) 4 2 p = p := by rw [sh165]; exact propext ⟨fun q => q.2.2, fun q => ⟨rfl, rfl, q⟩⟩
theorem gf165_3  : gfl (SH 165) 4 3 f KA = KA (vr 168) := by rw [sh165]; exact propext ⟨fun q => q.2, fun q => ⟨rfl, q⟩⟩
theorem gf165_4  : gfl (SH 165) 4 4 f KA = KA (vr 169) := by rw [sh165]; exact propext ⟨fun q => q.2, fun q => ⟨rfl, q⟩⟩
theorem ic165  : isC (SH 165) 4 = True := by rw [sh165]; exact propext ⟨fun _ => trivial, fun _ => rfl⟩
theorem ar166  : arr (SH 166) false i p = ((0 ≤ i ∧ i < 324) ∧ p) := by rw [sh166]; exact propext ⟨fun q => q.2, fun q => ⟨rfl, q⟩⟩
theorem al166  : aln (SH 166) KI = KI 324 := by rw [sh166]; rfl
theorem ar167  : arr (SH 167) false i p = ((0 ≤ i ∧ i < 324) ∧ p) := by rw [sh167]; exact propext ⟨fun q => q.2, fun q => ⟨rfl, q⟩⟩
theorem al167  : aln (SH 167) KI = KI 324 := by rw [sh167]; rfl
theorem ar168  : arr (SH 168) false i p = ((0 ≤ i ∧ i < 324) ∧ p) := by rw [sh168]; exact propext ⟨fun q => q.2, fun q => ⟨rfl, q⟩⟩
theorem al168  : aln (SH 168) KI = KI 324 := by rw [sh168]; rfl
theorem gf171_0  : gfl (SH 171) 0 0 f KA = KA (vr 172) := by rw [sh171]; exact propext ⟨fun q => q.2, fun q => ⟨rfl, q⟩⟩
theorem gf171_1  : gfl (SH 171) 0 1 f KA = KA (vi (f 1)) := by rw [sh171]; exact propext ⟨fun q => q.2, fun q => ⟨rfl, q⟩⟩
theorem pf171_1  : pfl (SH 171) 0 1 p = p := by rw [sh171]; exact propext ⟨fun q => q.2.2, fun q => ⟨rfl, rfl, q⟩⟩
theorem gf171_2  : gfl (SH 171) 0 2 f KA = KA (vi (f 2)) := by rw [sh171]; exact propext ⟨fun q => q.2, fun q => ⟨rfl, q⟩⟩
theorem pf171_2  : pfl (SH 171) 0 2 p = p := by rw [sh171]; exact propext ⟨fun q => q.2.2, fun q => ⟨rfl, rfl, q⟩⟩
theorem gf171_3  : gfl (SH 171) 0 3 f KA = KA (vr 173) := by rw [sh171]; exact propext ⟨fun q => q.2, fun q => ⟨rfl, q⟩⟩
theorem ic171  : isC (SH 171) 0 = True := by rw [sh171]; exact propext ⟨fun _ => trivial, fun _ => rfl⟩
theorem ar172  : arr (SH 172) false i p = ((0 ≤ i ∧ i < 81) ∧ p) := by rw [sh172]; exact propext ⟨fun q => q.2, fun q => ⟨rfl, q⟩⟩
theorem al172  : aln (SH 172) KI = KI 81 := by rw [sh172]; rfl
theorem gf179_0  : gfl (SH 179) 7 0 f KA = KA (vr 180) := by rw [sh179]; exact propext ⟨fun q => q.2, fun q => ⟨rfl, q⟩⟩
theorem gf179_1  : gfl (SH 179) 7 1 f KA = KA (vr 187) := by rw [sh179]; exact propext ⟨fun q => q.2, fun q => ⟨rfl, q⟩⟩
theorem gf179_2  : gfl (SH 179) 7 2 f KA = KA (vr 193) := by rw [sh179]; exact propext ⟨fun q => q.2, fun q => ⟨rfl, q⟩⟩
theorem gf179_3  : gfl (SH 179) 7 3 f KA = KA (vi (f 3)) := by rw [sh179]; exact propext ⟨fun q => q.2, fun q => ⟨rfl, q⟩⟩
theorem pf179_3  : pfl (SH 179) 7 3 p = p := by rw [sh179]; exact propext ⟨fun q => q.2.2, fun q => ⟨rfl, rfl, q⟩⟩
theorem gf179_4  : gfl (SH 179) 7 4 f KA = KA (vi (f 4)) := by rw [sh179]; exact propext ⟨fun q => q.2, fun q => ⟨rfl, q⟩⟩
theorem pf179_4  : pfl (SH 179) 7 4 p = p := by rw [sh179]; exact propext ⟨fun q => q.2.2, fun q => ⟨rfl, rfl, q⟩⟩
theorem gf179_5  : gfl (SH 179) 7 5 f KA = KA (vi (f 5)) := by rw [sh179]; exact propext ⟨fun q => q.2, fun q => ⟨rfl, q⟩⟩
theorem pf179_5  : pfl (SH 179) 7 5 p = p := by rw [sh179]; exact propext ⟨fun q => q.2.2, fun q => ⟨rfl, rfl, q⟩⟩
theorem gf179_6  : gfl (SH 179) 7 6 f KA = KA (vi (f 6)) := by rw [sh179]; exact propext ⟨fun q => q.2, fun q => ⟨rfl, q⟩⟩
theorem pf179_6  : pfl (SH 179) 7 6 p = p := by rw [sh179]; exact propext ⟨fun q => q.2.2, fun q => ⟨rfl, rfl, q⟩⟩
theorem ic179  : isC (SH 179) 7 = True := by rw [sh179]; exact propext ⟨fun _ => trivial, fun _ => rfl⟩
theorem ar193  : arr (SH 193) false i p = ((0 ≤ i ∧ i < 10) ∧ p) := by rw [sh193]; exact propext ⟨fun q => q.2, fun q => ⟨rfl, q⟩⟩
theorem al193  : aln (SH 193) KI = KI 10 := by rw [sh193]; rfl
theorem gf197_0  : gfl (SH 197) 8 0 f KA = KA (vr 198) := by rw [sh197]; exact propext ⟨fun q => q.2, fun q => ⟨rfl, q⟩⟩
theorem gf197_1  : gfl (SH 197) 8 1 f KA = KA (vr 201) := by rw [sh197]; exact propext ⟨fun q => q.2, fun q => ⟨rfl, q⟩⟩
theorem gf197_2  : gfl (SH 197) 8 2 f KA = KA (vr 207) := by rw [sh197]; exact propext ⟨fun q => q.2, fun q => ⟨rfl, q⟩⟩
theorem ic197  : isC (SH 197) 8 = True := by rw [sh197]; exact propext ⟨fun _ => trivial, fun _ => rfl⟩
theorem ar207  : arr (SH 207) false i p = ((0 ≤ i ∧ i < 81) ∧ p) := by rw [sh207]; exact propext ⟨fun q => q.2, fun q => ⟨rfl, q⟩⟩
theorem al207  : aln (SH 207) KI = KI 81 := by rw [sh207]; rfl
theorem gf208_0  : gfl (SH 208) 5 0 f KA = KA (vr 209) := by rw [sh208]; exact propext ⟨fun q => q.2, fun q => ⟨rfl, q⟩⟩
theorem gf208_1  : gfl (SH 208) 5 1 f KA = KA (vr 210) := by rw [sh208]; exact propext ⟨fun q => q.2, fun q => ⟨rfl, q⟩⟩
theorem gf208_2  : gfl (SH 208) 5 2 f KA = KA (vr 211) := by rw [sh208]; exact propext ⟨fun q => q.2, fun q => ⟨rfl, q⟩⟩
theorem ic208  : isC (SH 208) 5 = True := by rw [sh208]; exact propext ⟨fun _ => trivial, fun _ => rfl⟩
theorem ar209  : arr (SH 209) false i p = ((0 ≤ i ∧ i < 4) ∧ p) := by rw [sh209]; exact propext ⟨fun q => q.2, fun q => ⟨rfl, q⟩⟩
theorem al209  : aln (SH 209) KI = KI 4 := by rw [sh209]; rfl
theorem ar210  : arr (SH 210) false i p = ((0 ≤ i ∧ i < 4) ∧ p) := by rw [sh210]; exact propext ⟨fun q => q.2, fun q => ⟨rfl, q⟩⟩
theorem al210  : aln (SH 210) KI = KI 4 := by rw [sh210]; rfl
theorem ar211  : arr (SH 211) false i p = ((0 ≤ i ∧ i < 120) ∧ p) := by rw [sh211]; exact propext ⟨fun q => q.2, fun q => ⟨rfl, q⟩⟩
theorem al211  : aln (SH 211) KI = KI 120 := by rw [sh211]; rfl
theorem gf212_0  : gfl (SH 212) 11 0 f KA = KA (vr 213) := by rw [sh212]; exact propext ⟨fun q => q.2, fun q => ⟨rfl, q⟩⟩
theorem gf212_1  : gfl (SH 212) 11 1 f KA = KA (vr 214) := by rw [sh212]; exact propext ⟨fun q => q.2, fun q => ⟨rfl, q⟩⟩
theorem gf212_2  : gfl (SH 212) 11 2 f KA = KA (vi (f 2)) := by rw [sh212]; exact propext ⟨fun q => q.2, fun q => ⟨rfl, q⟩⟩
theorem pf212_2  : pfl (SH 212) 11 2 p = p := by rw [sh212]; exact propext ⟨fun q => q.2.2, fun q => ⟨rfl, rfl, q⟩⟩
theorem gf212_3  : gfl (SH 212) 11 3 f KA = KA (vr 215) := by rw [sh212]; exact propext ⟨fun q => q.2, fun q => ⟨rfl, q⟩⟩
theorem gf212_4  : gfl (SH 212) 11 4 f KA = KA (vr 216) := by rw [sh212]; exact propext ⟨fun q => q.2, fun q => ⟨rfl, q⟩⟩
theorem gf212_5  : gfl (SH 212) 11 5 f KA = KA (vr 217) := by rw [sh212]; exact propext ⟨fun q => q.2, fun q => ⟨rfl, q⟩⟩
theorem gf212_6  : gfl (SH 212) 11 6 f KA = KA (vi (f 6)) := by rw [sh212]; exact propext ⟨fun q => q.2, fun q => ⟨rfl, q⟩⟩
theorem pf212_6  : pfl (SH 212) 11 6 p = p := by rw [sh212]; exact propext ⟨fun q => q.2.2, fun q => ⟨rfl, rfl, q⟩⟩
theorem gf212_7  : gfl (SH 212) 11 7 f KA = KA (vi (f 7)) := by rw [sh212]; exact propext ⟨fun q => q.2, fun q => ⟨rfl, q⟩⟩
theorem pf212_7  : pfl (SH 212) 11 7 p = p := by rw [sh212]; exact propext ⟨fun q => q.2.2, fun q => ⟨rfl, rfl, q⟩⟩
theorem gf212_8  : gfl (SH 212) 11 8 f KA = KA (vr 218) := by rw [sh212]; exact propext ⟨fun q => q.2, fun q => ⟨rfl, q⟩⟩
theorem gf212_9  : gfl (SH 212) 11 9 f KA = KA (vi (f 9)) := by rw [sh212]; exact propext ⟨fun q => q.2, fun q => ⟨rfl, q⟩⟩
theorem pf212_9  : pfl (SH 212) 11 9 p = p := by rw [sh212]; exact propext ⟨fun q => q.2.2, fun q => ⟨rfl, rfl, q⟩⟩
theorem gf212_10  : gfl (SH 212) 11 10 f KA = KA (vr 219) := by rw [sh212]; exact propext ⟨fun q => q.2, fun q => ⟨rfl, q⟩⟩
theorem gf212_11  : gfl (SH 212) 11 11 f KA = KA (vr 220) := by rw [sh212]; exact propext ⟨fun q => q.2, fun q => ⟨rfl, q⟩⟩
theorem gf212_12  : gfl (SH 212) 11 12 f KA = KA (vr 221) := by rw [sh212]; exact propext ⟨fun q => q.2, fun q => ⟨rfl, q⟩⟩
theorem gf212_13  : gfl (SH 212) 11 13 f KA = KA (vr 222) := by rw [sh212]; exact propext ⟨fun q => q.2, fun q => ⟨rfl, q⟩⟩
theorem gf212_14  : gfl (SH 212) 11 14 f KA = KA (vi (f 14)) := by rw [sh212]; exact propext ⟨fun q => q.2, fun q => ⟨rfl, q⟩⟩
theorem pf212_14  : pfl (SH 212) 11 14 p = p := by rw [sh212]; exact propext ⟨fun q => q.2.2, fun q => ⟨rfl, rfl, q⟩⟩
theorem gf212_15  : gfl (SH 212) 11 15 f KA = KA (vr 223) := by rw [sh212]; exact propext ⟨fun q => q.2, fun q => ⟨rfl, q⟩⟩
theorem gf212_16  : gfl (SH 212) 11 16 f KA = KA (vr 224) := by rw [sh212]; exact propext ⟨fun q => q.2, fun q => ⟨rfl, q⟩⟩
theorem gf212_17  : gfl (SH 212) 11 17 f KA = KA (vr 225) := by rw [sh212]; exact propext ⟨fun q => q.2, fun q => ⟨rfl, q⟩⟩
theorem gf212_18  : gfl (SH 212) 11 18 f KA = KA (vi (f 18)) := by rw [sh212]; exact propext ⟨fun q => q.2, fun q => ⟨rfl, q⟩⟩
theorem pf212_18  : pfl (SH 212) 11 18 p = p := by rw [sh212]; exact propext ⟨fun q => q.2.2, fun q => ⟨rfl, rfl, q⟩⟩
theorem gf212_19  : gfl (SH 212) 11 19 f KA = KA (vr 226) := by rw [sh212]; exact propext ⟨fun q => q.2, fun q => ⟨rfl, q⟩⟩
theorem gf212_20  : gfl (SH 212) 11 20 f KA = KA (vr 227) := by rw [sh212]; exact propext ⟨fun q => q.2, fun q => ⟨rfl, q⟩⟩
theorem gf212_21  : gfl (SH 212) 11 21 f KA = KA (vr 228) := by rw [sh212]; exact propext ⟨fun q => q.2, fun q => ⟨rfl, q⟩⟩
theorem gf212_22  : gfl (SH 212) 11 22 f KA = KA (vr 229) := by rw [sh212]; exact propext ⟨fun q => q.2, fun q => ⟨rfl, q⟩⟩
theorem gf212_23  : gfl (SH 212) 11 23 f KA = KA (vr 230) := by rw [sh212]; exact propext ⟨fun q => q.2, fun q => ⟨rfl, q⟩⟩
theorem ic212  : isC (SH 212) 11 = True := by rw [sh212]; exact propext ⟨fun _ => trivial, fun _ => rfl⟩
theorem ar213  : arr (SH 213) false i p = ((0 ≤ i ∧ i < 265) ∧ p) := by rw [sh213]; exact propext ⟨fun q => q.2, fun q => ⟨rfl, q⟩⟩
theorem al213  : aln (SH 213) KI = KI 265 := by rw [sh213]; rfl
theorem ar214  : arr (SH 214) false i p = ((0 ≤ i ∧ i < 5300) ∧ p) := by rw [sh214]; exact propext ⟨fun q => q.2, fun q => ⟨rfl, q⟩⟩
theorem al214  : aln (SH 214) KI = KI 5300 := by rw [sh214]; rfl
theorem ar215  : arr (SH 215) false i p = ((0 ≤ i ∧ i < 4) ∧ p) := by rw [sh215]; exact propext ⟨fun q => q.2, fun q => ⟨rfl, q⟩⟩
theorem al215  : aln (SH 215) KI = KI 4 := by rw [sh215]; rfl
theorem ar216  : arr (SH 216) false i p = ((0 ≤ i ∧ i < 4) ∧ p) := by rw [sh216]; exact propext ⟨fun q => q.2, fun q => ⟨rfl, q⟩⟩
theorem al216  : aln (SH 216) KI = KI 4 := by rw [sh216]; rfl
theorem ar217  : arr (SH 217) false i p = ((0 ≤ i ∧ i < 120) ∧ p) := by rw [sh217]; exact propext ⟨fun q => q.2, fun q => ⟨rfl, q⟩⟩
theorem al217  : aln (SH 217) KI = KI 120 := by rw [sh217]; rfl
theorem ar218  : arr (SH 218) false i p = ((0 ≤ i ∧ i < 324) ∧ p) := by rw [sh218]; exact propext ⟨fun q => q.2, fun q => ⟨rfl, q⟩⟩
theorem al218  : aln (SH 218) KI = KI 324 := by rw [sh218]; rfl
theorem ar219  : arr (SH 219) true i p = ((0 ≤ i ∧ i < 324) ∧ p) := by rw [sh219]; exact propext ⟨fun q => q.2, fun q => ⟨rfl, q⟩⟩
theorem al219  : aln (SH 219) KI = KI 324 := by rw [sh219]; rfl
theorem ar220  : arr (SH 220) true i p = ((0 ≤ i ∧ i < 324) ∧ p) := by rw [sh220]; exact propext ⟨fun q => q.2, fun q => ⟨rfl, q⟩⟩
theorem al220  : aln (SH 220) KI = KI 324 := by rw [sh220]; rfl
theorem ar221  : arr (SH 221) true i p = ((0 ≤ i ∧ i < 81) ∧ p) := by rw [sh221]; exact propext ⟨fun q => q.2, fun q => ⟨rfl, q⟩⟩
theorem al221  : aln (SH 221) KI = KI 81 := by rw [sh221]; rfl
theorem ar222  : arr (SH 222) false i p = ((0 ≤ i ∧ i < 324) ∧ p) := by rw [sh222]; exact propext ⟨fun q => q.2, fun q => ⟨rfl, q⟩⟩
theorem al222  : aln (SH 222) KI = KI 324 := by rw [sh222]; rfl
theorem ar223  : arr (SH 223) false i p = ((0 ≤ i ∧ i < 324) ∧ p) := by rw [sh223]; exact propext ⟨fun q => q.2, fun q => ⟨rfl, q⟩⟩
theorem al223  : aln (SH 223) KI = KI 324 := by rw [sh223]; rfl
theorem ar224  : arr (SH 224) false i p = ((0 ≤ i ∧ i < 324) ∧ p) := by rw [sh224]; exact propext ⟨fun q => q.2, fun q => ⟨rfl, q⟩⟩
theorem al224  : aln (SH 224) KI = KI 324 := by rw [sh224]; rfl
theorem ar225  : arr (SH 225) true i p = ((0 ≤ i ∧ i < 324) ∧ p) := by rw [sh225]; exact propext ⟨fun q => q.2, fun q => ⟨rfl, q⟩⟩
theorem al225  : aln (SH 225) KI = KI 324 := by rw [sh225]; rfl
theorem ar226  : arr (SH 226) false i p = ((0 ≤ i ∧ i < 81) ∧ p) := by rw [sh226]; exact propext ⟨fun q => q.2, fun q => ⟨rfl, q⟩⟩
theorem al226  : aln (SH 226) KI = KI 81 := by rw [sh226]; rfl
theorem ar227  : arr (SH 227) false i p = ((0 ≤ i ∧ i < 81) ∧ p) := by rw [sh227]; exact propext ⟨fun q => q.2, fun q => ⟨rfl, q⟩⟩
theorem al227  : aln (SH 227) KI = KI 81 := by rw [sh227]; rfl
theorem ar228  : arr (SH 228) false i p = ((0 ≤ i ∧ i < 81) ∧ p) := by rw [sh228]; exact propext ⟨fun q => q.2, fun q => ⟨rfl, q⟩⟩
theorem al228  : aln (SH 228) KI = KI 81 := by rw [sh228]; rfl
theorem ar229  : arr (SH 229) true i p = ((0 ≤ i ∧ i < 81) ∧ p) := by rw [sh229]; exact propext ⟨fun q => q.2, fun q => ⟨rfl, q⟩⟩
theorem al229  : aln (SH 229) KI = KI 81 := by rw [sh229]; rfl
theorem ar230  : arr (SH 230) false i p = ((0 ≤ i ∧ i < 30) ∧ p) := by rw [sh230]; exact propext ⟨fun q => q.2, fun q => ⟨rfl, q⟩⟩
theorem al230  : aln (SH 230) KI = KI 30 := by rw [sh230]; rfl
def Ismz (k : Nat) : Prop := SH k = .inr (.inr (1, [none, none, some (some (k + 1)), some (some (k + 2)), some (some (k + 3)), none, some (some (k + 4)), some (some (k + 5)), some (some (k + 6))])) ∧ SH (k + 1) = .inl (false, 81) ∧ SH (k + 2) = .inl (false, 81) ∧ SH (k + 3) = .inl (false, 81) ∧ SH (k + 4) = .inl (false, 6) ∧ SH (k + 5) = .inl (false, 6) ∧ SH (k + 6) = .inl (false, 6)
theorem gfmz_0 (h : Ismz k) : gfl (SH k) 1 0 f KA = KA (vi (f 0)) := by rw [h.1]; exact propext ⟨fun q => q.2, fun q => ⟨rfl, q⟩⟩
theorem pfmz_0 (h : Ismz k) : pfl (SH k) 1 0 p = p := by rw [h.1]; exact propext ⟨fun q => q.2.2, fun q => ⟨rfl, rfl, q⟩⟩
theorem gfmz_1 (h : Ismz k) : gfl (SH k) 1 1 f KA = KA (vi (f 1)) := by rw [h.1]; exact propext ⟨fun q => q.2, fun q => ⟨rfl, q⟩⟩
theorem pfmz_1 (h : Ismz k) : pfl (SH k) 1 1 p = p := by rw [h.1]; exact propext ⟨fun q => q.2.2, fun q => ⟨rfl, rfl, q⟩⟩
theorem gfmz_2 (h : Ismz k) : gfl (SH k) 1 2 f KA = KA (vr (k + 1)) := by rw [h.1]; exact propext ⟨fun q => q.2, fun q => ⟨rfl, q⟩⟩
theorem gfmz_3 (h : Ismz k) : gfl (SH k) 1 3 f KA = KA (vr (k + 2)) := by rw [h.1]; exact propext ⟨fun q => q.2, fun q => ⟨rfl, q⟩⟩
theorem gfmz_4 (h : Ismz k) : gfl (SH k) 1 4 f KA = KA (vr (k + 3)) := by rw [h.1]; exact propext ⟨fun q => q.2, fun q => ⟨rfl, q⟩⟩
theorem gfmz_5 (h : Ismz k) : gfl (SH k) 1 5 f KA = KA (vi (f 5)) := by rw [h.1]; exact propext ⟨fun q => q.2, fun q => ⟨rfl, q⟩⟩
theorem pfmz_5 (h : Ismz k) : pfl (SH k) 1 5 p = p := by rw [h.1]; exact propext ⟨fun q => q.2.2, fun q => ⟨rfl, rfl, q⟩⟩
theorem gfmz_6 (h : Ismz k) : gfl (SH k) 1 6 f KA = KA (vr (k + 4)) := by rw [h.1]; exact propext ⟨fun q => q.2, fun q => ⟨rfl, q⟩⟩
theorem gfmz_7 (h : Ismz k) : gfl (SH k) 1 7 f KA = KA (vr (k + 5)) := by rw [h.1]; exact propext ⟨fun q => q.2, fun q => ⟨rfl, q⟩⟩
theorem gfmz_8 (h : Ismz k) : gfl (SH k) 1 8 f KA = KA (vr (k + 6)) := by rw [h.1]; exact propext ⟨fun q => q.2, fun q => ⟨rfl, q⟩⟩
theorem icmz (h : Ismz k) : isC (SH k) 1 = True := by rw [h.1]; exact propext ⟨fun _ => trivial, fun _ => rfl⟩
theorem armz1 (h : Ismz k) : arr (SH (k + 1)) false i p = ((0 ≤ i ∧ i < 81) ∧ p) := by rw [h.2.1]; exact propext ⟨fun q => q.2, fun q => ⟨rfl, q⟩⟩
theorem almz1 (h : Ismz k) : aln (SH (k + 1)) KI = KI 81 := by rw [h.2.1]; rfl
theorem armz2 (h : Ismz k) : arr (SH (k + 2)) false i p = ((0 ≤ i ∧ i < 81) ∧ p) := by rw [h.2.2.1]; exact propext ⟨fun q => q.2, fun q => ⟨rfl, q⟩⟩
theorem almz2 (h : Ismz k) : aln (SH (k + 2)) KI = KI 81 := by rw [h.2.2.1]; rfl
theorem armz3 (h : Ismz k) : arr (SH (k + 3)) false i p = ((0 ≤ i ∧ i < 81) ∧ p) := by rw [h.2.2.2.1]; exact propext ⟨fun q => q.2, fun q => ⟨rfl, q⟩⟩
theorem almz3 (h : Ismz k) : aln (SH (k + 3)) KI = KI 81 := by rw [h.2.2.2.1]; rfl
theorem armz4 (h : Ismz k) : arr (SH (k + 4)) false i p = ((0 ≤ i ∧ i < 6) ∧ p) := by rw [h.2.2.2.2.1]; exact propext ⟨fun q => q.2, fun q => ⟨rfl, q⟩⟩
theorem almz4 (h : Ismz k) : aln (SH (k + 4)) KI = KI 6 := by rw [h.2.2.2.2.1]; rfl
theorem armz5 (h : Ismz k) : arr (SH (k + 5)) false i p = ((0 ≤ i ∧ i < 6) ∧ p) := by rw [h.2.2.2.2.2.1]; exact propext ⟨fun q => q.2, fun q => ⟨rfl, q⟩⟩
theorem almz5 (h : Ismz k) : aln (SH (k + 5)) KI = KI 6 := by rw [h.2.2.2.2.2.1]; rfl
theorem armz6 (h : Ismz k) : arr (SH (k + 6)) false i p = ((0 ≤ i ∧ i < 6) ∧ p) := by rw [h.2.2.2.2.2.2]; exact propext ⟨fun q => q.2, fun q => ⟨rfl, q⟩⟩
theorem almz6 (h : Ismz k) : aln (SH (k + 6)) KI = KI 6 := by rw [h.2.2.2.2.2.2]; rfl
theorem ismz1 : Ismz 1 := ⟨rfl, rfl, rfl, rfl, rfl, rfl, rfl⟩
theorem ismz8 : Ismz 8 := ⟨rfl, rfl, rfl, rfl, rfl, rfl, rfl⟩
theorem ismz17 : Ismz 17 := ⟨rfl, rfl, rfl, rfl, rfl, rfl, rfl⟩
theorem ismz24 : Ismz 24 := ⟨rfl, rfl, rfl, rfl, rfl, rfl, rfl⟩
theorem ismz31 : Ismz 31 := ⟨rfl, rfl, rfl, rfl, rfl, rfl, rfl⟩
theorem ismz38 : Ismz 38 := ⟨rfl, rfl, rfl, rfl, rfl, rfl, rfl⟩
theorem ismz45 : Ismz 45 := ⟨rfl, rfl, rfl, rfl, rfl, rfl, rfl⟩
theorem ismz52 : Ismz 52 := ⟨rfl, rfl, rfl, rfl, rfl, rfl, rfl⟩
theorem ismz59 : Ismz 59 := ⟨rfl, rfl, rfl, rfl, rfl, rfl, rfl⟩
theorem ismz66 : Ismz 66 := ⟨rfl, rfl, rfl, rfl, rfl, rfl, rfl⟩
theorem ismz73 : Ismz 73 := ⟨rfl, rfl, rfl, rfl, rfl, rfl, rfl⟩
theorem ismz80 : Ismz 80 := ⟨rfl, rfl, rfl, rfl, rfl, rfl, rfl⟩
theorem ismz87 : Ismz 87 := ⟨rfl, rfl, rfl, rfl, rfl, rfl, rfl⟩
theorem ismz94 : Ismz 94 := ⟨rfl, rfl, rfl, rfl, rfl, rfl, rfl⟩
theorem ismz101 : Ismz 101 := ⟨rfl, rfl, rfl, rfl, rfl, rfl, rfl⟩
theorem ismz108 : Ismz 108 := ⟨rfl, rfl, rfl, rfl, rfl, rfl, rfl⟩
theorem ismz115 : Ismz 115 := ⟨rfl, rfl, rfl, rfl, rfl, rfl, rfl⟩
theorem ismz122 : Ismz 122 := ⟨rfl, rfl, rfl, rfl, rfl, rfl, rfl⟩
theorem ismz129 : Ismz 129 := ⟨rfl, rfl, rfl, rfl, rfl, rfl, rfl⟩
theorem ismz136 : Ismz 136 := ⟨rfl, rfl, rfl, rfl, rfl, rfl, rfl⟩
theorem ismz143 : Ismz 143 := ⟨rfl, rfl, rfl, rfl, rfl, rfl, rfl⟩
theorem ismz150 : Ismz 150 := ⟨rfl, rfl, rfl, rfl, rfl, rfl, rfl⟩
theorem ismz180 : Ismz 180 := ⟨rfl, rfl, rfl, rfl, rfl, rfl, rfl⟩
def Issp (k : Nat) : Prop := SH k = .inr (.inr (6, [some (some (k + 1)), none, some (some (k + 2)), some (some (k + 3)), some (some (k + 4)), none, none, some (some (k + 5))])) ∧ SH (k + 1) = .inl (false, 324) ∧ SH (k + 2) = .inl (false, 324) ∧ SH (k + 3) = .inl (false, 81) ∧ SH (k + 4) = .inl (false, 81) ∧ SH (k + 5) = .inl (false, 81)
theorem gfsp_0 (h : Issp k) : gfl (SH k) 6 0 f KA = KA (vr (k + 1)) := by rw [h.1]; exact propext ⟨fun q => q.2, fun q => ⟨rfl, q⟩⟩
theorem gfsp_1 (h : Issp k) : gfl (SH k) 6 1 f KA = KA (vi (f 1)) := by rw [h.1]; exact propext ⟨fun q => q.2, fun q => ⟨rfl, q⟩⟩
theorem pfsp_1 (h : Issp k) : pfl (SH k) 6 1 p = p := by rw [h.1]; exact propext ⟨fun q => q.2.2, fun q => ⟨rfl, rfl, q⟩⟩
theorem gfsp_2 (h : Issp k) : gfl (SH k) 6 2 f KA = KA (vr (k + 2)) := by rw [h.1]; exact propext ⟨fun q => q.2, fun q => ⟨rfl, q⟩⟩
theorem gfsp_3 (h : Issp k) : gfl (SH k) 6 3 f KA = KA (vr (k + 3)) := by rw [h.1]; exact propext ⟨fun q => q.2, fun q => ⟨rfl, q⟩⟩
theorem gfsp_4 (h : Issp k) : gfl (SH k) 6 4 f KA = KA (vr (k + 4)) := by rw [h.1]; exact propext ⟨fun q => q.2, fun q => ⟨rfl, q⟩⟩
theorem gfsp_5 (h : Issp k) : gfl (SH k) 6 5 f KA = KA (vi (f 5)) := by rw [h.1]; exact propext ⟨fun q => q.2, fun q => ⟨rfl, q⟩⟩
theorem pfsp_5 (h : Issp k) : pfl (SH k) 6 5 p = p := by rw [h.1]; exact propext ⟨fun q => q.2.2, fun q => ⟨rfl, rfl, q⟩⟩
theorem gfsp_6 (h : Issp k) : gfl (SH k) 6 6 f KA = KA (vi (f 6)) := by rw [h.1]; exact propext ⟨fun q => q.2, fun q => ⟨rfl, q⟩⟩
theorem pfsp_6 (h : Issp k) : pfl (SH k) 6 6 p = p := by rw [h.1]; exact propext ⟨fun q => q.2.2, fun q => ⟨rfl, rfl, q⟩⟩
theorem gfsp_7 (h : Issp k) : gfl (SH k) 6 7 f KA = KA (vr (k + 5)) := by rw [h.1]; exact propext ⟨fun q => q.2, fun q => ⟨rfl, q⟩⟩
theorem icsp (h : Issp k) : isC (SH k) 6 = True := by rw [h.1]; exact propext ⟨fun _ => trivial, fun _ => rfl⟩
theorem arsp1 (h : Issp k) : arr (SH (k + 1)) false i p = ((0 ≤ i ∧ i < 324) ∧ p) := by rw [h.2.1]; exact propext ⟨fun q => q.2, fun q => ⟨rfl, q⟩⟩
theorem alsp1 (h : Issp k) : aln (SH (k + 1)) KI = KI 324 := by rw [h.2.1]; rfl
theorem arsp2 (h : Issp k) : arr (SH (k + 2)) false i p = ((0 ≤ i ∧ i < 324) ∧ p) := by rw [h.2.2.1]; exact propext ⟨fun q => q.2, fun q => ⟨rfl, q⟩⟩
theorem alsp2 (h : Issp k) : aln (SH (k + 2)) KI = KI 324 := by rw [h.2.2.1]; rfl
theorem arsp3 (h : Issp k) : arr (SH (k + 3)) false i p = ((0 ≤ i ∧ i < 81) ∧ p) := by rw [h.2.2.2.1]; exact propext ⟨fun q => q.2, fun q => ⟨rfl, q⟩⟩
theorem alsp3 (h : Issp k) : aln (SH (k + 3)) KI = KI 81 := by rw [h.2.2.2.1]; rfl
theorem arsp4 (h : Issp k) : arr (SH (k + 4)) false i p = ((0 ≤ i ∧ i < 81) ∧ p) := by rw [h.2.2.2.2.1]; exact propext ⟨fun q => q.2, fun q => ⟨rfl, q⟩⟩
theorem alsp4 (h : Issp k) : aln (SH (k + 4)) KI = KI 81 := by rw [h.2.2.2.2.1]; rfl
theorem arsp5 (h : Issp k) : arr (SH (k + 5)) false i p = ((0 ≤ i ∧ i < 81) ∧ p) := by rw [h.2.2.2.2.2]; exact propext ⟨fun q => q.2, fun q => ⟨rfl, q⟩⟩
theorem alsp5 (h : Issp k) : aln (SH (k + 5)) KI = KI 81 := by rw [h.2.2.2.2.2]; rfl
theorem issp159 : Issp 159 := ⟨rfl, rfl, rfl, rfl, rfl, rfl⟩
theorem issp173 : Issp 173 := ⟨rfl, rfl, rfl, rfl, rfl, rfl⟩
theorem issp187 : Issp 187 := ⟨rfl, rfl, rfl, rfl, rfl, rfl⟩
theorem issp201 : Issp 201 := ⟨rfl, rfl, rfl, rfl, rfl, rfl⟩
def Ispa (k : Nat) : Prop := SH k = .inr (.inr (3, [some (some (k + 1)), none, none])) ∧ SH (k + 1) = .inl (false, 324)
theorem gfpa_0 (h : Ispa k) : gfl (SH k) 3 0 f KA = KA (vr (k + 1)) := by rw [h.1]; exact propext ⟨fun q => q.2, fun q => ⟨rfl, q⟩⟩
theorem gfpa_1 (h : Ispa k) : gfl (SH k) 3 1 f KA = KA (vi (f 1)) := by rw [h.1]; exact propext ⟨fun q => q.2, fun q => ⟨rfl, q⟩⟩
theorem pfpa_1 (h : Ispa k) : pfl (SH k) 3 1 p = p := by rw [h.1]; exact propext ⟨fun q => q.2.2, fun q => ⟨rfl, rfl, q⟩⟩
theorem gfpa_2 (h : Ispa k) : gfl (SH k) 3 2 f KA = KA (vi (f 2)) := by rw [h.1]; exact propext ⟨fun q => q.2, fun q => ⟨rfl, q⟩⟩
theorem pfpa_2 (h : Ispa k) : pfl (SH k) 3 2 p = p := by rw [h.1]; exact propext ⟨fun q => q.2.2, fun q => ⟨rfl, rfl, q⟩⟩
theorem icpa (h : Ispa k) : isC (SH k) 3 = True := by rw [h.1]; exact propext ⟨fun _ => trivial, fun _ => rfl⟩
theorem arpa1 (h : Ispa k) : arr (SH (k + 1)) false i p = ((0 ≤ i ∧ i < 324) ∧ p) := by rw [h.2]; exact propext ⟨fun q => q.2, fun q => ⟨rfl, q⟩⟩
theorem alpa1 (h : Ispa k) : aln (SH (k + 1)) KI = KI 324 := by rw [h.2]; rfl
theorem ispa157 : Ispa 157 := ⟨rfl, rfl⟩
theorem ispa169 : Ispa 169 := ⟨rfl, rfl⟩
def Iswk (k : Nat) : Prop := SH k = .inr (.inr (9, [some (some (k + 1)), none, some (some (k + 2))])) ∧ SH (k + 1) = .inl (false, 81) ∧ SH (k + 2) = .inl (false, 81)
theorem gfwk_0 (h : Iswk k) : gfl (SH k) 9 0 f KA = KA (vr (k + 1)) := by rw [h.1]; exact propext ⟨fun q => q.2, fun q => ⟨rfl, q⟩⟩
theorem gfwk_1 (h : Iswk k) : gfl (SH k) 9 1 f KA = KA (vi (f 1)) := by rw [h.1]; exact propext ⟨fun q => q.2, fun q => ⟨rfl, q⟩⟩
theorem pfwk_1 (h : Iswk k) : pfl (SH k) 9 1 p = p := by rw [h.1]; exact propext ⟨fun q => q.2.2, fun q => ⟨rfl, rfl, q⟩⟩
theorem gfwk_2 (h : Iswk k) : gfl (SH k) 9 2 f KA = KA (vr (k + 2)) := by rw [h.1]; exact propext ⟨fun q => q.2, fun q => ⟨rfl, q⟩⟩
theorem icwk (h : Iswk k) : isC (SH k) 9 = True := by rw [h.1]; exact propext ⟨fun _ => trivial, fun _ => rfl⟩
theorem arwk1 (h : Iswk k) : arr (SH (k + 1)) false i p = ((0 ≤ i ∧ i < 81) ∧ p) := by rw [h.2.1]; exact propext ⟨fun q => q.2, fun q => ⟨rfl, q⟩⟩
theorem alwk1 (h : Iswk k) : aln (SH (k + 1)) KI = KI 81 := by rw [h.2.1]; rfl
theorem arwk2 (h : Iswk k) : arr (SH (k + 2)) false i p = ((0 ≤ i ∧ i < 81) ∧ p) := by rw [h.2.2]; exact propext ⟨fun q => q.2, fun q => ⟨rfl, q⟩⟩
theorem alwk2 (h : Iswk k) : aln (SH (k + 2)) KI = KI 81 := by rw [h.2.2]; rfl
theorem iswk194 : Iswk 194 := ⟨rfl, rfl, rfl⟩
theorem iswk198 : Iswk 198 := ⟨rfl, rfl, rfl⟩
theorem ev16 {KB : AV → Prop} : arq (SH 16) i KB = ((0 ≤ i ∧ i < 20) ∧ KB (vr (17 + 7 * i.toNat))) := by rw [sh16]; rfl
theorem is_past (i : Nat) (h : i < 20) : Ismz (17 + 7 * i) := by
  match i, h with
  | 0, _ => exact ismz17
  | 1, _ => exact ismz24
  | 2, _ => exact ismz31
  | 3, _ => exact ismz38
  | 4, _ => exact ismz45
  | 5, _ => exact ismz52
  | 6, _ => exact ismz59
  | 7, _ => exact ismz66
  | 8, _ => exact ismz73
  | 9, _ => exact ismz80
  | 10, _ => exact ismz87
  | 11, _ => exact ismz94
  | 12, _ => exact ismz101
  | 13, _ => exact ismz108
  | 14, _ => exact ismz115
  | 15, _ => exact ismz122
  | 16, _ => exact ismz129
  | 17, _ => exact ismz136
  | 18, _ => exact ismz143
  | 19, _ => exact ismz150
  | k + 20, h => omega
end SHP
