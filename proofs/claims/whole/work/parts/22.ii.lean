def isI (sp : Shp) (KI : Int → Prop) : Prop := match sp with
  | .inl (false, len) => KI len
  | _ => False
theorem ev30 {X : Cx} {sh : Nat → Shp} {R : Option AV → Sg → Prop} {CK : Nat → List AV → Nat → List AV → List AV → Sg → Prop} {rb : Bool} {nx a b : Nat} {z : Int} {L St : List AV} {σ : Sg} {K : List AV → List AV → Sg → Prop} {J : Nat → List AV → List AV → Sg → Prop} {nn dp sp : Int} {kd ks : Nat} : stp X sh R CK rb nx K J 30 z a b L (vi nn :: vi dp :: vr kd :: vi sp :: vr ks :: St) σ = (St.length ≤ 8 ∧ (0 ≤ nn ∧ 0 ≤ dp ∧ 0 ≤ sp) ∧ isI (sh ks) (fun l1 => sp + nn ≤ l1) ∧ isI (sh kd) (fun l2 => dp + nn ≤ l2) ∧ K L St (cpy σ ks sp kd dp nn)) := by
  rw [ev_30]
  apply propext
  constructor
  · rintro ⟨h1, h2, h3, h4, ⟨h5, h6⟩, h7⟩
    refine ⟨h1, h2, ?_, ?_, h7⟩
    · rw [h5] at h3 ⊢; exact h3
    · rw [h6] at h4 ⊢; exact h4
  · rintro ⟨h1, h2, h3, h4, h7⟩
    have key : ∀ (s0 : Shp) (KI : Int → Prop), isI s0 KI → aln s0 KI ∧ s0 = .inl (false, (match s0 with | .inl (_, q) => q | _ => 0)) := by
      intro s0 KI h
      rcases s0 with ⟨b, l⟩ | s0
      · cases b with
        | false => exact ⟨h, rfl⟩
        | true => exact h.elim
      · exact h.elim
    exact ⟨h1, h2, (key _ _ h3).1, (key _ _ h4).1, ⟨(key _ _ h3).2, (key _ _ h4).2⟩, h7⟩
section II
variable {KI : Int → Prop} {k : Nat}
theorem ii166 : isI (SH 166) KI = KI 324 := by rw [sh166]; rfl
theorem ii167 : isI (SH 167) KI = KI 324 := by rw [sh167]; rfl
theorem ii168 : isI (SH 168) KI = KI 324 := by rw [sh168]; rfl
theorem ii172 : isI (SH 172) KI = KI 81 := by rw [sh172]; rfl
theorem ii193 : isI (SH 193) KI = KI 10 := by rw [sh193]; rfl
theorem ii207 : isI (SH 207) KI = KI 81 := by rw [sh207]; rfl
theorem ii209 : isI (SH 209) KI = KI 4 := by rw [sh209]; rfl
theorem ii210 : isI (SH 210) KI = KI 4 := by rw [sh210]; rfl
theorem ii211 : isI (SH 211) KI = KI 120 := by rw [sh211]; rfl
theorem ii213 : isI (SH 213) KI = KI 265 := by rw [sh213]; rfl
theorem ii214 : isI (SH 214) KI = KI 5300 := by rw [sh214]; rfl
theorem ii215 : isI (SH 215) KI = KI 4 := by rw [sh215]; rfl
theorem ii216 : isI (SH 216) KI = KI 4 := by rw [sh216]; rfl
theorem ii217 : isI (SH 217) KI = KI 120 := by rw [sh217]; rfl
theorem ii218 : isI (SH 218) KI = KI 324 := by rw [sh218]; rfl
theorem ii222 : isI (SH 222) KI = KI 324 := by rw [sh222]; rfl
theorem ii223 : isI (SH 223) KI = KI 324 := by rw [sh223]; rfl
theorem ii224 : isI (SH 224) KI = KI 324 := by rw [sh224]; rfl
theorem ii226 : isI (SH 226) KI = KI 81 := by rw [sh226]; rfl
theorem ii227 : isI (SH 227) KI = KI 81 := by rw [sh227]; rfl
theorem ii228 : isI (SH 228) KI = KI 81 := by rw [sh228]; rfl
theorem ii230 : isI (SH 230) KI = KI 30 := by rw [sh230]; rfl
theorem iimz1 (h : Ismz k) : isI (SH (k + 1)) KI = KI 81 := by rw [h.2.1]; rfl
theorem iimz2 (h : Ismz k) : isI (SH (k + 2)) KI = KI 81 := by rw [h.2.2.1]; rfl
theorem iimz3 (h : Ismz k) : isI (SH (k + 3)) KI = KI 81 := by rw [h.2.2.2.1]; rfl
theorem iimz4 (h : Ismz k) : isI (SH (k + 4)) KI = KI 6 := by rw [h.2.2.2.2.1]; rfl
theorem iimz5 (h : Ismz k) : isI (SH (k + 5)) KI = KI 6 := by rw [h.2.2.2.2.2.1]; rfl
theorem iimz6 (h : Ismz k) : isI (SH (k + 6)) KI = KI 6 := by rw [h.2.2.2.2.2.2]; rfl
theorem iisp1 (h : Issp k) : isI (SH (k + 1)) KI = KI 324 := by rw [h.2.1]; rfl
theorem iisp2 (h : Issp k) : isI (SH (k + 2)) KI = KI 324 := by rw [h.2.2.1]; rfl
theorem iisp3 (h : Issp k) : isI (SH (k + 3)) KI = KI 81 := by rw [h.2.2.2.1]; rfl
theorem iisp4 (h : Issp k) : isI (SH (k + 4)) KI = KI 81 := by rw [h.2.2.2.2.1]; rfl
theorem iisp5 (h : Issp k) : isI (SH (k + 5)) KI = KI 81 := by rw [h.2.2.2.2.2]; rfl
theorem iipa1 (h : Ispa k) : isI (SH (k + 1)) KI = KI 324 := by rw [h.2]; rfl
theorem iiwk1 (h : Iswk k) : isI (SH (k + 1)) KI = KI 81 := by rw [h.2.1]; rfl
theorem iiwk2 (h : Iswk k) : isI (SH (k + 2)) KI = KI 81 := by rw [h.2.2]; rfl
end II
