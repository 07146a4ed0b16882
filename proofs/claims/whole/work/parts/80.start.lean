/-! AT THE LAW'S ENTRY: classes, arrays, String constants, statics, links, casts stand as the tables say -/
def flL : List Cond := flatC (Cond.and given_1 narrow_1)
def tmS : Nat → Term := fun i => match i with
  | 0 => .string "SaltPeace$Reader" 87
  | 1 => .string "SaltPeace$Reader" 105
  | 2 => .string "SaltPeace$Reader" 107
  | 3 => .string "SaltPeace$Reader" 109
  | 4 => .string "SaltPeace$Reader" 111
  | 5 => .string "SaltPeace$Reader" 137
  | 6 => .string "SaltPeace$Reader" 129
  | 7 => .string "SaltPeace$Reader" 131
  | 8 => .string "SaltPeaceModel" 108
  | 9 => .string "SaltPeaceModel" 114
  | 10 => .string "SaltPeaceModel" 116
  | _ => .string "SaltPeaceModel" 121
section START
variable {s : State} {b : Nat}
set_option maxHeartbeats 4000000 in
set_option maxRecDepth 20000 in
theorem st_cls (hts : ∀ w ∈ lw_tbl, w.before #[Value.ref b] s = true) : ∃ D : va_G, ∀ (c : Nat) (q : vw_C), vwCl[c]? = some q → u_Kn s q.1 q.2.1 q.2.2 (D.1 c) (D.2 c) := by
  have lt : ∀ (i : Nat) {w : Cond}, lw_tbl[i]? = some w → w.before #[Value.ref b] s = true := fun i w h => hts w (List.mem_of_getElem? h)
  have key : ∀ c : Nat, ∃ z : ClassId × (Nat → Nat), ∀ q : vw_C, vwCl[c]? = some q → u_Kn s q.1 q.2.1 q.2.2 z.1 z.2 := by
    intro c
    match c with
    | 0 =>
      obtain ⟨z1, z2, h⟩ := u_known (C := RX0) (T := TX0) (N := 4) (n := 4) hts (fun w hw => ft_tbl (ci_0.2.1 w hw)) (lt 587 (by decide +kernel))
      exact ⟨(z1, z2), fun q hq => by cases hq; exact h⟩
    | 1 =>
      obtain ⟨z1, z2, h⟩ := u_known (C := RX1) (T := TX1) (N := 4) (n := 4) hts (fun w hw => ft_tbl (ci_1.2.1 w hw)) (lt 576 (by decide +kernel))
      exact ⟨(z1, z2), fun q hq => by cases hq; exact h⟩
    | 2 =>
      obtain ⟨z1, z2, h⟩ := u_known (C := RX2) (T := TX2) (N := 4) (n := 4) hts (fun w hw => ft_tbl (ci_2.2.1 w hw)) (lt 609 (by decide +kernel))
      exact ⟨(z1, z2), fun q hq => by cases hq; exact h⟩
    | 3 =>
      obtain ⟨z1, z2, h⟩ := u_known (C := RX3) (T := TX3) (N := 16) (n := 16) hts (fun w hw => ft_tbl (ci_3.2.1 w hw)) (lt 246 (by decide +kernel))
      exact ⟨(z1, z2), fun q hq => by cases hq; exact h⟩
    | 4 =>
      obtain ⟨z1, z2, h⟩ := u_known (C := RX4) (T := TX4) (N := 4) (n := 4) hts (fun w hw => ft_tbl (ci_4.2.1 w hw)) (lt 201 (by decide +kernel))
      exact ⟨(z1, z2), fun q hq => by cases hq; exact h⟩
    | 5 =>
      obtain ⟨z1, z2, h⟩ := u_known (C := RX5) (T := TX5) (N := 4) (n := 4) hts (fun w hw => ft_tbl (ci_5.2.1 w hw)) (lt 620 (by decide +kernel))
      exact ⟨(z1, z2), fun q hq => by cases hq; exact h⟩
    | 6 =>
      obtain ⟨z1, z2, h⟩ := u_known (C := RX6) (T := TX6) (N := 10) (n := 10) hts (fun w hw => ft_tbl (ci_6.2.1 w hw)) (lt 137 (by decide +kernel))
      exact ⟨(z1, z2), fun q hq => by cases hq; exact h⟩
    | 7 =>
      obtain ⟨z1, z2, h⟩ := u_known (C := RX7) (T := TX7) (N := 8) (n := 8) hts (fun w hw => ft_tbl (ci_7.2.1 w hw)) (lt 97 (by decide +kernel))
      exact ⟨(z1, z2), fun q hq => by cases hq; exact h⟩
    | 8 =>
      obtain ⟨z1, z2, h⟩ := u_known (C := RX8) (T := TX8) (N := 4) (n := 4) hts (fun w hw => ft_tbl (ci_8.2.1 w hw)) (lt 598 (by decide +kernel))
      exact ⟨(z1, z2), fun q hq => by cases hq; exact h⟩
    | 9 =>
      obtain ⟨z1, z2, h⟩ := u_known (C := RX9) (T := TX9) (N := 4) (n := 4) hts (fun w hw => ft_tbl (ci_9.2.1 w hw)) (lt 631 (by decide +kernel))
      exact ⟨(z1, z2), fun q hq => by cases hq; exact h⟩
    | 10 =>
      obtain ⟨z1, z2, h⟩ := u_known (C := RX10) (T := TX10) (N := 5) (n := 5) hts (fun w hw => ft_tbl (ci_10.2.1 w hw)) (lt 174 (by decide +kernel))
      exact ⟨(z1, z2), fun q hq => by cases hq; exact h⟩
    | 11 =>
      obtain ⟨z1, z2, h⟩ := u_known (C := RX11) (T := TX11) (N := 10) (n := 10) hts (fun w hw => ft_tbl (ci_11.2.1 w hw)) (lt 89 (by decide +kernel))
      exact ⟨(z1, z2), fun q hq => by cases hq; exact h⟩
    | 12 =>
      obtain ⟨z1, z2, h⟩ := u_known (C := RX12) (T := TX12) (N := 21) (n := 21) hts (fun w hw => ft_tbl (ci_12.2.1 w hw)) (lt 1074 (by decide +kernel))
      exact ⟨(z1, z2), fun q hq => by cases hq; exact h⟩
    | k + 13 => exact ⟨(0, fun _ => 0), fun q hq => absurd hq (by rw [List.getElem?_eq_none (by show 13 ≤ k + 13; omega)]; exact fun h => nomatch h)⟩
  obtain ⟨D, hD⟩ := Classical.axiomOfChoice key
  exact ⟨(fun c => (D c).1, fun c => (D c).2), fun c q hq => hD c q hq⟩
set_option maxHeartbeats 4000000 in
set_option maxRecDepth 20000 in
theorem st_arr (hts : ∀ w ∈ lw_tbl, w.before #[Value.ref b] s = true) : ∃ gc : Nat → ClassId, ∀ (k : Nat) (q : ClassId × FieldType), [(gc 0, FieldType.int), (gc 1, FieldType.boolean), (gc 2, FieldType.object "SaltPeace$Person")][k]? = some q → ArrOfT s q.1 q.2 ∧ va_RA s q.1 q.2 := by
  have lt : ∀ (i : Nat) {w : Cond}, lw_tbl[i]? = some w → w.before #[Value.ref b] s = true := fun i w h => hts w (List.mem_of_getElem? h)
  obtain ⟨c0, k0, p0, h1, h2, h3⟩ := Cond.arrayClass_spec (type := .int) (args := #[Value.ref b]) (first := s) (o := none) (s := s) (idx := []) (lt 135 (by decide +kernel))
  obtain ⟨c1, k1, p1, g1, g2, g3⟩ := Cond.arrayClass_spec (type := .boolean) (args := #[Value.ref b]) (first := s) (o := none) (s := s) (idx := []) (lt 1142 (by decide +kernel))
  obtain ⟨p2, c2, k2, f1, f2, f3, f4, f5⟩ := Cond.arrayOver_spec (n := "SaltPeace$Person") (args := #[Value.ref b]) (first := s) (o := none) (s := s) (idx := []) (lt 252 (by decide +kernel))
  refine ⟨fun k => if k = 0 then c0 else if k = 1 then c1 else c2, fun k q hq => ?_⟩
  match k, hq with
  | 0, hq => cases hq; exact ⟨fun n z => ⟨fun k h => (by cases h), k0, h2, p0, h3⟩, h1⟩
  | 1, hq => cases hq; exact ⟨fun n z => ⟨fun k h => (by cases h), k1, g2, p1, g3⟩, g1⟩
  | 2, hq => cases hq; exact ⟨fun n z => ⟨fun k h => (by cases h), k2, f3, p2, f4⟩, k2, p2, f3, f4, f1, f5⟩
  | k + 3, hq => exact absurd hq (by rw [List.getElem?_eq_none (by show 3 ≤ k + 3; omega)]; exact fun h => nomatch h)
set_option maxHeartbeats 4000000 in
set_option maxRecDepth 20000 in
theorem st_ex (hfs : ∀ w ∈ flL, w.before #[Value.ref b] s = true) : ∀ i : Nat, i < 12 → (Cond.exactly (tmS i) "java/lang/String").before #[Value.ref b] s = true := by
  have fl : ∀ (i : Nat) {w : Cond}, flL[i]? = some w → w.before #[Value.ref b] s = true := fun i w h => hfs w (List.mem_of_getElem? h)
  intro i hi
  rcases (show i = 0 ∨ i = 1 ∨ i = 2 ∨ i = 3 ∨ i = 4 ∨ i = 5 ∨ i = 6 ∨ i = 7 ∨ i = 8 ∨ i = 9 ∨ i = 10 ∨ i = 11 by omega) with rfl | rfl | rfl | rfl | rfl | rfl | rfl | rfl | rfl | rfl | rfl | rfl
  · exact fl 108 (by decide +kernel)
  · exact fl 116 (by decide +kernel)
  · exact fl 125 (by decide +kernel)
  · exact fl 135 (by decide +kernel)
  · exact fl 147 (by decide +kernel)
  · exact fl 159 (by decide +kernel)
  · exact fl 178 (by decide +kernel)
  · exact fl 194 (by decide +kernel)
  · exact fl 208 (by decide +kernel)
  · exact fl 225 (by decide +kernel)
  · exact fl 243 (by decide +kernel)
  · exact fl 303 (by decide +kernel)
set_option maxHeartbeats 4000000 in
set_option maxRecDepth 20000 in
theorem st_co (hfs : ∀ w ∈ flL, w.before #[Value.ref b] s = true) : ∀ i : Nat, i < 12 → (Cond.eq (.field (tmS i) "java/lang/String" "coder" "B") (.int 0)).before #[Value.ref b] s = true := by
  have fl : ∀ (i : Nat) {w : Cond}, flL[i]? = some w → w.before #[Value.ref b] s = true := fun i w h => hfs w (List.mem_of_getElem? h)
  intro i hi
  rcases (show i = 0 ∨ i = 1 ∨ i = 2 ∨ i = 3 ∨ i = 4 ∨ i = 5 ∨ i = 6 ∨ i = 7 ∨ i = 8 ∨ i = 9 ∨ i = 10 ∨ i = 11 by omega) with rfl | rfl | rfl | rfl | rfl | rfl | rfl | rfl | rfl | rfl | rfl | rfl
  · exact fl 109 (by decide +kernel)
  · exact fl 117 (by decide +kernel)
  · exact fl 126 (by decide +kernel)
  · exact fl 136 (by decide +kernel)
  · exact fl 148 (by decide +kernel)
  · exact fl 160 (by decide +kernel)
  · exact fl 179 (by decide +kernel)
  · exact fl 195 (by decide +kernel)
  · exact fl 209 (by decide +kernel)
  · exact fl 226 (by decide +kernel)
  · exact fl 244 (by decide +kernel)
  · exact fl 304 (by decide +kernel)
set_option maxHeartbeats 4000000 in
set_option maxRecDepth 20000 in
theorem st_ar (hfs : ∀ w ∈ flL, w.before #[Value.ref b] s = true) : ∀ i : Nat, i < 12 → (Cond.arrayOf (.field (tmS i) "java/lang/String" "value" "[B") .byte).before #[Value.ref b] s = true := by
  have fl : ∀ (i : Nat) {w : Cond}, flL[i]? = some w → w.before #[Value.ref b] s = true := fun i w h => hfs w (List.mem_of_getElem? h)
  intro i hi
  rcases (show i = 0 ∨ i = 1 ∨ i = 2 ∨ i = 3 ∨ i = 4 ∨ i = 5 ∨ i = 6 ∨ i = 7 ∨ i = 8 ∨ i = 9 ∨ i = 10 ∨ i = 11 by omega) with rfl | rfl | rfl | rfl | rfl | rfl | rfl | rfl | rfl | rfl | rfl | rfl
  · exact fl 110 (by decide +kernel)
  · exact fl 118 (by decide +kernel)
  · exact fl 127 (by decide +kernel)
  · exact fl 137 (by decide +kernel)
  · exact fl 149 (by decide +kernel)
  · exact fl 161 (by decide +kernel)
  · exact fl 180 (by decide +kernel)
  · exact fl 196 (by decide +kernel)
  · exact fl 210 (by decide +kernel)
  · exact fl 227 (by decide +kernel)
  · exact fl 245 (by decide +kernel)
  · exact fl 305 (by decide +kernel)
set_option maxHeartbeats 4000000 in
set_option maxRecDepth 20000 in
theorem st_le (hfs : ∀ w ∈ flL, w.before #[Value.ref b] s = true) : ∀ i : Nat, i < 12 → (Cond.eq (.length (.field (tmS i) "java/lang/String" "value" "[B")) (.int (Int32.ofNat (strLen.getD i 0)))).before #[Value.ref b] s = true := by
  have fl : ∀ (i : Nat) {w : Cond}, flL[i]? = some w → w.before #[Value.ref b] s = true := fun i w h => hfs w (List.mem_of_getElem? h)
  intro i hi
  rcases (show i = 0 ∨ i = 1 ∨ i = 2 ∨ i = 3 ∨ i = 4 ∨ i = 5 ∨ i = 6 ∨ i = 7 ∨ i = 8 ∨ i = 9 ∨ i = 10 ∨ i = 11 by omega) with rfl | rfl | rfl | rfl | rfl | rfl | rfl | rfl | rfl | rfl | rfl | rfl
  · exact fl 111 (by decide +kernel)
  · exact fl 119 (by decide +kernel)
  · exact fl 128 (by decide +kernel)
  · exact fl 138 (by decide +kernel)
  · exact fl 150 (by decide +kernel)
  · exact fl 162 (by decide +kernel)
  · exact fl 181 (by decide +kernel)
  · exact fl 197 (by decide +kernel)
  · exact fl 211 (by decide +kernel)
  · exact fl 228 (by decide +kernel)
  · exact fl 246 (by decide +kernel)
  · exact fl 306 (by decide +kernel)
set_option maxHeartbeats 4000000 in
set_option maxRecDepth 20000 in
theorem st_el (hfs : ∀ w ∈ flL, w.before #[Value.ref b] s = true) : ∀ i : Nat, i < 12 → ∀ j : Nat, j < strLen.getD i 0 → (Cond.eq (.elem (.field (tmS i) "java/lang/String" "value" "[B") (.int (Int32.ofNat j))) (.int ((strByt.getD i []).getD j 0))).before #[Value.ref b] s = true := by
  have fl : ∀ (i : Nat) {w : Cond}, flL[i]? = some w → w.before #[Value.ref b] s = true := fun i w h => hfs w (List.mem_of_getElem? h)
  intro i hi
  rcases (show i = 0 ∨ i = 1 ∨ i = 2 ∨ i = 3 ∨ i = 4 ∨ i = 5 ∨ i = 6 ∨ i = 7 ∨ i = 8 ∨ i = 9 ∨ i = 10 ∨ i = 11 by omega) with rfl | rfl | rfl | rfl | rfl | rfl | rfl | rfl | rfl | rfl | rfl | rfl
  · intro j hj
    have hj : j < 4 := hj
    rcases (show j = 0 ∨ j = 1 ∨ j = 2 ∨ j = 3 by omega) with rfl | rfl | rfl | rfl
    · exact fl 112 (by decide +kernel)
    · exact fl 113 (by decide +kernel)
    · exact fl 114 (by decide +kernel)
    · exact fl 115 (by decide +kernel)
  · intro j hj
    have hj : j < 4 := hj
    rcases (show j = 0 ∨ j = 1 ∨ j = 2 ∨ j = 3 by omega) with rfl | rfl | rfl | rfl
    · exact fl 120 (by decide +kernel)
    · exact fl 121 (by decide +kernel)
    · exact fl 122 (by decide +kernel)
    · exact fl 123 (by decide +kernel)
  · intro j hj
    have hj : j < 4 := hj
    rcases (show j = 0 ∨ j = 1 ∨ j = 2 ∨ j = 3 by omega) with rfl | rfl | rfl | rfl
    · exact fl 129 (by decide +kernel)
    · exact fl 130 (by decide +kernel)
    · exact fl 131 (by decide +kernel)
    · exact fl 132 (by decide +kernel)
  · intro j hj
    have hj : j < 5 := hj
    rcases (show j = 0 ∨ j = 1 ∨ j = 2 ∨ j = 3 ∨ j = 4 by omega) with rfl | rfl | rfl | rfl | rfl
    · exact fl 139 (by decide +kernel)
    · exact fl 140 (by decide +kernel)
    · exact fl 141 (by decide +kernel)
    · exact fl 142 (by decide +kernel)
    · exact fl 143 (by decide +kernel)
  · intro j hj
    have hj : j < 4 := hj
    rcases (show j = 0 ∨ j = 1 ∨ j = 2 ∨ j = 3 by omega) with rfl | rfl | rfl | rfl
    · exact fl 151 (by decide +kernel)
    · exact fl 152 (by decide +kernel)
    · exact fl 153 (by decide +kernel)
    · exact fl 154 (by decide +kernel)
  · intro j hj
    have hj : j < 10 := hj
    rcases (show j = 0 ∨ j = 1 ∨ j = 2 ∨ j = 3 ∨ j = 4 ∨ j = 5 ∨ j = 6 ∨ j = 7 ∨ j = 8 ∨ j = 9 by omega) with rfl | rfl | rfl | rfl | rfl | rfl | rfl | rfl | rfl | rfl
    · exact fl 163 (by decide +kernel)
    · exact fl 164 (by decide +kernel)
    · exact fl 165 (by decide +kernel)
    · exact fl 166 (by decide +kernel)
    · exact fl 167 (by decide +kernel)
    · exact fl 168 (by decide +kernel)
    · exact fl 169 (by decide +kernel)
    · exact fl 170 (by decide +kernel)
    · exact fl 171 (by decide +kernel)
    · exact fl 172 (by decide +kernel)
  · intro j hj
    have hj : j < 6 := hj
    rcases (show j = 0 ∨ j = 1 ∨ j = 2 ∨ j = 3 ∨ j = 4 ∨ j = 5 by omega) with rfl | rfl | rfl | rfl | rfl | rfl
    · exact fl 182 (by decide +kernel)
    · exact fl 183 (by decide +kernel)
    · exact fl 184 (by decide +kernel)
    · exact fl 185 (by decide +kernel)
    · exact fl 186 (by decide +kernel)
    · exact fl 187 (by decide +kernel)
  · intro j hj
    have hj : j < 3 := hj
    rcases (show j = 0 ∨ j = 1 ∨ j = 2 by omega) with rfl | rfl | rfl
    · exact fl 198 (by decide +kernel)
    · exact fl 199 (by decide +kernel)
    · exact fl 200 (by decide +kernel)
  · intro j hj
    have hj : j < 5 := hj
    rcases (show j = 0 ∨ j = 1 ∨ j = 2 ∨ j = 3 ∨ j = 4 by omega) with rfl | rfl | rfl | rfl | rfl
    · exact fl 212 (by decide +kernel)
    · exact fl 213 (by decide +kernel)
    · exact fl 214 (by decide +kernel)
    · exact fl 215 (by decide +kernel)
    · exact fl 216 (by decide +kernel)
  · intro j hj
    have hj : j < 5 := hj
    rcases (show j = 0 ∨ j = 1 ∨ j = 2 ∨ j = 3 ∨ j = 4 by omega) with rfl | rfl | rfl | rfl | rfl
    · exact fl 229 (by decide +kernel)
    · exact fl 230 (by decide +kernel)
    · exact fl 231 (by decide +kernel)
    · exact fl 232 (by decide +kernel)
    · exact fl 233 (by decide +kernel)
  · intro j hj
    have hj : j < 6 := hj
    rcases (show j = 0 ∨ j = 1 ∨ j = 2 ∨ j = 3 ∨ j = 4 ∨ j = 5 by omega) with rfl | rfl | rfl | rfl | rfl | rfl
    · exact fl 247 (by decide +kernel)
    · exact fl 248 (by decide +kernel)
    · exact fl 249 (by decide +kernel)
    · exact fl 250 (by decide +kernel)
    · exact fl 251 (by decide +kernel)
    · exact fl 252 (by decide +kernel)
  · intro j hj
    have hj : j < 5 := hj
    rcases (show j = 0 ∨ j = 1 ∨ j = 2 ∨ j = 3 ∨ j = 4 by omega) with rfl | rfl | rfl | rfl | rfl
    · exact fl 307 (by decide +kernel)
    · exact fl 308 (by decide +kernel)
    · exact fl 309 (by decide +kernel)
    · exact fl 310 (by decide +kernel)
    · exact fl 311 (by decide +kernel)
set_option maxHeartbeats 4000000 in
set_option maxRecDepth 20000 in
theorem st_ne (hfs : ∀ w ∈ flL, w.before #[Value.ref b] s = true) : ∀ i : Nat, i < 12 → ∀ j : Nat, j < 12 → i ≠ j → (Cond.not (Cond.eq (tmS i) (tmS j))).before #[Value.ref b] s = true ∨ (Cond.not (Cond.eq (tmS j) (tmS i))).before #[Value.ref b] s = true := by
  have fl : ∀ (i : Nat) {w : Cond}, flL[i]? = some w → w.before #[Value.ref b] s = true := fun i w h => hfs w (List.mem_of_getElem? h)
  intro i hi
  rcases (show i = 0 ∨ i = 1 ∨ i = 2 ∨ i = 3 ∨ i = 4 ∨ i = 5 ∨ i = 6 ∨ i = 7 ∨ i = 8 ∨ i = 9 ∨ i = 10 ∨ i = 11 by omega) with rfl | rfl | rfl | rfl | rfl | rfl | rfl | rfl | rfl | rfl | rfl | rfl
  · intro j hj hne
    rcases (show j = 0 ∨ j = 1 ∨ j = 2 ∨ j = 3 ∨ j = 4 ∨ j = 5 ∨ j = 6 ∨ j = 7 ∨ j = 8 ∨ j = 9 ∨ j = 10 ∨ j = 11 by omega) with rfl | rfl | rfl | rfl | rfl | rfl | rfl | rfl | rfl | rfl | rfl | rfl
    · exact absurd rfl hne
    · exact Or.inl (fl 124 (by decide +kernel))
    · exact Or.inl (fl 133 (by decide +kernel))
    · exact Or.inl (fl 144 (by decide +kernel))
    · exact Or.inl (fl 155 (by decide +kernel))
    · exact Or.inl (fl 173 (by decide +kernel))
    · exact Or.inl (fl 188 (by decide +kernel))
    · exact Or.inl (fl 201 (by decide +kernel))
    · exact Or.inl (fl 217 (by decide +kernel))
    · exact Or.inl (fl 234 (by decide +kernel))
    · exact Or.inl (fl 253 (by decide +kernel))
    · exact Or.inl (fl 312 (by decide +kernel))
  · intro j hj hne
    rcases (show j = 0 ∨ j = 1 ∨ j = 2 ∨ j = 3 ∨ j = 4 ∨ j = 5 ∨ j = 6 ∨ j = 7 ∨ j = 8 ∨ j = 9 ∨ j = 10 ∨ j = 11 by omega) with rfl | rfl | rfl | rfl | rfl | rfl | rfl | rfl | rfl | rfl | rfl | rfl
    · exact Or.inr (fl 124 (by decide +kernel))
    · exact absurd rfl hne
    · exact Or.inl (fl 134 (by decide +kernel))
    · exact Or.inl (fl 145 (by decide +kernel))
    · exact Or.inl (fl 156 (by decide +kernel))
    · exact Or.inl (fl 174 (by decide +kernel))
    · exact Or.inl (fl 189 (by decide +kernel))
    · exact Or.inl (fl 202 (by decide +kernel))
    · exact Or.inl (fl 218 (by decide +kernel))
    · exact Or.inl (fl 235 (by decide +kernel))
    · exact Or.inl (fl 254 (by decide +kernel))
    · exact Or.inl (fl 313 (by decide +kernel))
  · intro j hj hne
    rcases (show j = 0 ∨ j = 1 ∨ j = 2 ∨ j = 3 ∨ j = 4 ∨ j = 5 ∨ j = 6 ∨ j = 7 ∨ j = 8 ∨ j = 9 ∨ j = 10 ∨ j = 11 by omega) with rfl | rfl | rfl | rfl | rfl | rfl | rfl | rfl | rfl | rfl | rfl | rfl
    · exact Or.inr (fl 133 (by decide +kernel))
    · exact Or.inr (fl 134 (by decide +kernel))
    · exact absurd rfl hne
    · exact Or.inl (fl 146 (by decide +kernel))
    · exact Or.inl (fl 157 (by decide +kernel))
    · exact Or.inl (fl 175 (by decide +kernel))
    · exact Or.inl (fl 190 (by decide +kernel))
    · exact Or.inl (fl 203 (by decide +kernel))
    · exact Or.inl (fl 219 (by decide +kernel))
    · exact Or.inl (fl 236 (by decide +kernel))
    · exact Or.inl (fl 255 (by decide +kernel))
    · exact Or.inl (fl 314 (by decide +kernel))
  · intro j hj hne
    rcases (show j = 0 ∨ j = 1 ∨ j = 2 ∨ j = 3 ∨ j = 4 ∨ j = 5 ∨ j = 6 ∨ j = 7 ∨ j = 8 ∨ j = 9 ∨ j = 10 ∨ j = 11 by omega) with rfl | rfl | rfl | rfl | rfl | rfl | rfl | rfl | rfl | rfl | rfl | rfl
    · exact Or.inr (fl 144 (by decide +kernel))
    · exact Or.inr (fl 145 (by decide +kernel))
    · exact Or.inr (fl 146 (by decide +kernel))
    · exact absurd rfl hne
    · exact Or.inl (fl 158 (by decide +kernel))
    · exact Or.inl (fl 176 (by decide +kernel))
    · exact Or.inl (fl 191 (by decide +kernel))
    · exact Or.inl (fl 204 (by decide +kernel))
    · exact Or.inl (fl 220 (by decide +kernel))
    · exact Or.inl (fl 237 (by decide +kernel))
    · exact Or.inl (fl 256 (by decide +kernel))
    · exact Or.inl (fl 315 (by decide +kernel))
  · intro j hj hne
    rcases (show j = 0 ∨ j = 1 ∨ j = 2 ∨ j = 3 ∨ j = 4 ∨ j = 5 ∨ j = 6 ∨ j = 7 ∨ j = 8 ∨ j = 9 ∨ j = 10 ∨ j = 11 by omega) with rfl | rfl | rfl | rfl | rfl | rfl | rfl | rfl | rfl | rfl | rfl | rfl
    · exact Or.inr (fl 155 (by decide +kernel))
    · exact Or.inr (fl 156 (by decide +kernel))
    · exact Or.inr (fl 157 (by decide +kernel))
    · exact Or.inr (fl 158 (by decide +kernel))
    · exact absurd rfl hne
    · exact Or.inl (fl 177 (by decide +kernel))
    · exact Or.inl (fl 192 (by decide +kernel))
    · exact Or.inl (fl 205 (by decide +kernel))
    · exact Or.inl (fl 221 (by decide +kernel))
    · exact Or.inl (fl 238 (by decide +kernel))
    · exact Or.inl (fl 257 (by decide +kernel))
    · exact Or.inl (fl 316 (by decide +kernel))
  · intro j hj hne
    rcases (show j = 0 ∨ j = 1 ∨ j = 2 ∨ j = 3 ∨ j = 4 ∨ j = 5 ∨ j = 6 ∨ j = 7 ∨ j = 8 ∨ j = 9 ∨ j = 10 ∨ j = 11 by omega) with rfl | rfl | rfl | rfl | rfl | rfl | rfl | rfl | rfl | rfl | rfl | rfl
    · exact Or.inr (fl 173 (by decide +kernel))
    · exact Or.inr (fl 174 (by decide +kernel))
    · exact Or.inr (fl 175 (by decide +kernel))
    · exact Or.inr (fl 176 (by decide +kernel))
    · exact Or.inr (fl 177 (by decide +kernel))
    · exact absurd rfl hne
    · exact Or.inl (fl 193 (by decide +kernel))
    · exact Or.inl (fl 206 (by decide +kernel))
    · exact Or.inl (fl 222 (by decide +kernel))
    · exact Or.inl (fl 239 (by decide +kernel))
    · exact Or.inl (fl 258 (by decide +kernel))
    · exact Or.inl (fl 317 (by decide +kernel))
  · intro j hj hne
    rcases (show j = 0 ∨ j = 1 ∨ j = 2 ∨ j = 3 ∨ j = 4 ∨ j = 5 ∨ j = 6 ∨ j = 7 ∨ j = 8 ∨ j = 9 ∨ j = 10 ∨ j = 11 by omega) with rfl | rfl | rfl | rfl | rfl | rfl | rfl | rfl | rfl | rfl | rfl | rfl
    · exact Or.inr (fl 188 (by decide +kernel))
    · exact Or.inr (fl 189 (by decide +kernel))
    · exact Or.inr (fl 190 (by decide +kernel))
    · exact Or.inr (fl 191 (by decide +kernel))
    · exact Or.inr (fl 192 (by decide +kernel))
    · exact Or.inr (fl 193 (by decide +kernel))
    · exact absurd rfl hne
    · exact Or.inl (fl 207 (by decide +kernel))
    · exact Or.inl (fl 223 (by decide +kernel))
    · exact Or.inl (fl 240 (by decide +kernel))
    · exact Or.inl (fl 259 (by decide +kernel))
    · exact Or.inl (fl 318 (by decide +kernel))
  · intro j hj hne
    rcases (show j = 0 ∨ j = 1 ∨ j = 2 ∨ j = 3 ∨ j = 4 ∨ j = 5 ∨ j = 6 ∨ j = 7 ∨ j = 8 ∨ j = 9 ∨ j = 10 ∨ j = 11 by omega) with rfl | rfl | rfl | rfl | rfl | rfl | rfl | rfl | rfl | rfl | rfl | rfl
    · exact Or.inr (fl 201 (by decide +kernel))
    · exact Or.inr (fl 202 (by decide +kernel))
    · exact Or.inr (fl 203 (by decide +kernel))
    · exact Or.inr (fl 204 (by decide +kernel))
    · exact Or.inr (fl 205 (by decide +kernel))
    · exact Or.inr (fl 206 (by decide +kernel))
    · exact Or.inr (fl 207 (by decide +kernel))
    · exact absurd rfl hne
    · exact Or.inl (fl 224 (by decide +kernel))
    · exact Or.inl (fl 241 (by decide +kernel))
    · exact Or.inl (fl 260 (by decide +kernel))
    · exact Or.inl (fl 319 (by decide +kernel))
  · intro j hj hne
    rcases (show j = 0 ∨ j = 1 ∨ j = 2 ∨ j = 3 ∨ j = 4 ∨ j = 5 ∨ j = 6 ∨ j = 7 ∨ j = 8 ∨ j = 9 ∨ j = 10 ∨ j = 11 by omega) with rfl | rfl | rfl | rfl | rfl | rfl | rfl | rfl | rfl | rfl | rfl | rfl
    · exact Or.inr (fl 217 (by decide +kernel))
    · exact Or.inr (fl 218 (by decide +kernel))
    · exact Or.inr (fl 219 (by decide +kernel))
    · exact Or.inr (fl 220 (by decide +kernel))
    · exact Or.inr (fl 221 (by decide +kernel))
    · exact Or.inr (fl 222 (by decide +kernel))
    · exact Or.inr (fl 223 (by decide +kernel))
    · exact Or.inr (fl 224 (by decide +kernel))
    · exact absurd rfl hne
    · exact Or.inl (fl 242 (by decide +kernel))
    · exact Or.inl (fl 261 (by decide +kernel))
    · exact Or.inl (fl 320 (by decide +kernel))
  · intro j hj hne
    rcases (show j = 0 ∨ j = 1 ∨ j = 2 ∨ j = 3 ∨ j = 4 ∨ j = 5 ∨ j = 6 ∨ j = 7 ∨ j = 8 ∨ j = 9 ∨ j = 10 ∨ j = 11 by omega) with rfl | rfl | rfl | rfl | rfl | rfl | rfl | rfl | rfl | rfl | rfl | rfl
    · exact Or.inr (fl 234 (by decide +kernel))
    · exact Or.inr (fl 235 (by decide +kernel))
    · exact Or.inr (fl 236 (by decide +kernel))
    · exact Or.inr (fl 237 (by decide +kernel))
    · exact Or.inr (fl 238 (by decide +kernel))
    · exact Or.inr (fl 239 (by decide +kernel))
    · exact Or.inr (fl 240 (by decide +kernel))
    · exact Or.inr (fl 241 (by decide +kernel))
    · exact Or.inr (fl 242 (by decide +kernel))
    · exact absurd rfl hne
    · exact Or.inl (fl 262 (by decide +kernel))
    · exact Or.inl (fl 321 (by decide +kernel))
  · intro j hj hne
    rcases (show j = 0 ∨ j = 1 ∨ j = 2 ∨ j = 3 ∨ j = 4 ∨ j = 5 ∨ j = 6 ∨ j = 7 ∨ j = 8 ∨ j = 9 ∨ j = 10 ∨ j = 11 by omega) with rfl | rfl | rfl | rfl | rfl | rfl | rfl | rfl | rfl | rfl | rfl | rfl
    · exact Or.inr (fl 253 (by decide +kernel))
    · exact Or.inr (fl 254 (by decide +kernel))
    · exact Or.inr (fl 255 (by decide +kernel))
    · exact Or.inr (fl 256 (by decide +kernel))
    · exact Or.inr (fl 257 (by decide +kernel))
    · exact Or.inr (fl 258 (by decide +kernel))
    · exact Or.inr (fl 259 (by decide +kernel))
    · exact Or.inr (fl 260 (by decide +kernel))
    · exact Or.inr (fl 261 (by decide +kernel))
    · exact Or.inr (fl 262 (by decide +kernel))
    · exact absurd rfl hne
    · exact Or.inl (fl 322 (by decide +kernel))
  · intro j hj hne
    rcases (show j = 0 ∨ j = 1 ∨ j = 2 ∨ j = 3 ∨ j = 4 ∨ j = 5 ∨ j = 6 ∨ j = 7 ∨ j = 8 ∨ j = 9 ∨ j = 10 ∨ j = 11 by omega) with rfl | rfl | rfl | rfl | rfl | rfl | rfl | rfl | rfl | rfl | rfl | rfl
    · exact Or.inr (fl 312 (by decide +kernel))
    · exact Or.inr (fl 313 (by decide +kernel))
    · exact Or.inr (fl 314 (by decide +kernel))
    · exact Or.inr (fl 315 (by decide +kernel))
    · exact Or.inr (fl 316 (by decide +kernel))
    · exact Or.inr (fl 317 (by decide +kernel))
    · exact Or.inr (fl 318 (by decide +kernel))
    · exact Or.inr (fl 319 (by decide +kernel))
    · exact Or.inr (fl 320 (by decide +kernel))
    · exact Or.inr (fl 321 (by decide +kernel))
    · exact Or.inr (fl 322 (by decide +kernel))
    · exact absurd rfl hne
set_option maxHeartbeats 4000000 in
set_option maxRecDepth 20000 in
theorem st_str (hfs : ∀ w ∈ flL, w.before #[Value.ref b] s = true) {A : Nat → Prop} (hA : ∀ a : Nat, a < s.heap.size → ¬ A a) : ∃ adK adV : Nat → Nat, vk_S 12 strLen strByt adK adV A s s.heap ∧ ∀ i : Nat, i < 12 → (tmS i).eval #[Value.ref b] s none [] s = some (.ref (adK i)) :=
  vk_Sof (args := #[Value.ref b]) (tm := tmS) (by decide) (st_ex hfs) (st_co hfs) (st_ar hfs) (st_le hfs) (st_el hfs) (fun i j hi hj h => st_ne hfs i hi j hj h) hA
set_option maxHeartbeats 4000000 in
set_option maxRecDepth 20000 in
theorem st_ref (hts : ∀ w ∈ lw_tbl, w.before #[Value.ref b] s = true) (hfs : ∀ w ∈ flL, w.before #[Value.ref b] s = true) {adK : Nat → Nat} (he : ∀ i : Nat, i < 12 → (tmS i).eval #[Value.ref b] s none [] s = some (.ref (adK i))) : ∀ q ∈ strRefs, vk_R q.1 q.2.1 q.2.2.1 (adK q.2.2.2) s := by
  have lt : ∀ (i : Nat) {w : Cond}, lw_tbl[i]? = some w → w.before #[Value.ref b] s = true := fun i w h => hts w (List.mem_of_getElem? h)
  have fl : ∀ (i : Nat) {w : Cond}, flL[i]? = some w → w.before #[Value.ref b] s = true := fun i w h => hfs w (List.mem_of_getElem? h)
  intro q hq
  unfold strRefs at hq
  simp only [List.mem_cons, List.not_mem_nil, or_false] at hq
  rcases hq with rfl | rfl | rfl | rfl | rfl | rfl | rfl | rfl | rfl | rfl | rfl | rfl | rfl | rfl
  · exact vk_R.of (A := #[Value.ref b]) (lt 392 (by decide +kernel)) (he 0 (by omega))
  · exact vk_R.of (A := #[Value.ref b]) (lt 483 (by decide +kernel)) (he 1 (by omega))
  · exact vk_R.of (A := #[Value.ref b]) (lt 484 (by decide +kernel)) (he 2 (by omega))
  · exact vk_R.of (A := #[Value.ref b]) (lt 485 (by decide +kernel)) (he 3 (by omega))
  · exact vk_R.of (A := #[Value.ref b]) (lt 486 (by decide +kernel)) (he 4 (by omega))
  · exact vk_R.of (A := #[Value.ref b]) (lt 516 (by decide +kernel)) (he 5 (by omega))
  · exact vk_R.of (A := #[Value.ref b]) (lt 529 (by decide +kernel)) (he 6 (by omega))
  · exact vk_R.of (A := #[Value.ref b]) (lt 530 (by decide +kernel)) (he 7 (by omega))
  · exact vk_R.of (A := #[Value.ref b]) (lt 1162 (by decide +kernel)) (he 8 (by omega))
  · exact vk_R.of (A := #[Value.ref b]) (lt 1181 (by decide +kernel)) (he 9 (by omega))
  · exact vk_R.of (A := #[Value.ref b]) (lt 1182 (by decide +kernel)) (he 10 (by omega))
  · exact vk_R.of (A := #[Value.ref b]) (lt 1203 (by decide +kernel)) (va_eqR (fl 279 (by decide +kernel)) (he 6 (by omega)))
  · exact vk_R.of (A := #[Value.ref b]) (lt 1208 (by decide +kernel)) (va_eqR (fl 298 (by decide +kernel)) (he 7 (by omega)))
  · exact vk_R.of (A := #[Value.ref b]) (lt 1209 (by decide +kernel)) (he 11 (by omega))
set_option maxHeartbeats 4000000 in
set_option maxRecDepth 20000 in
theorem st_nest (hts : ∀ w ∈ lw_tbl, w.before #[Value.ref b] s = true) : ∀ q ∈ nestRefs, va_Nw (.methodLinkNest q.1 q.2.1 q.2.2.1 q.2.2.2) s := by
  have lt : ∀ (i : Nat) {w : Cond}, lw_tbl[i]? = some w → w.before #[Value.ref b] s = true := fun i w h => hts w (List.mem_of_getElem? h)
  intro q hq
  unfold nestRefs at hq
  simp only [List.mem_cons, List.not_mem_nil, or_false] at hq
  rcases hq with rfl | rfl | rfl
  · exact va_Nw.of (A := #[Value.ref b]) rfl (lt 138 (by decide +kernel))
  · exact va_Nw.of (A := #[Value.ref b]) rfl (lt 900 (by decide +kernel))
  · exact va_Nw.of (A := #[Value.ref b]) rfl (lt 958 (by decide +kernel))
set_option maxHeartbeats 4000000 in
set_option maxRecDepth 20000 in
theorem st_yes (hts : ∀ w ∈ lw_tbl, w.before #[Value.ref b] s = true) : ∀ q ∈ castYes, va_Nw (.castable q.1 q.2) s := by
  have lt : ∀ (i : Nat) {w : Cond}, lw_tbl[i]? = some w → w.before #[Value.ref b] s = true := fun i w h => hts w (List.mem_of_getElem? h)
  intro q hq
  unfold castYes at hq
  simp only [List.mem_cons, List.not_mem_nil, or_false] at hq
  rcases hq with rfl | rfl | rfl | rfl | rfl | rfl | rfl | rfl | rfl | rfl
  · exact va_Nw.of (A := #[Value.ref b]) rfl (lt 555 (by decide +kernel))
  · exact va_Nw.of (A := #[Value.ref b]) rfl (lt 1513 (by decide +kernel))
  · exact va_Nw.of (A := #[Value.ref b]) rfl (lt 1514 (by decide +kernel))
  · exact va_Nw.of (A := #[Value.ref b]) rfl (lt 1515 (by decide +kernel))
  · exact va_Nw.of (A := #[Value.ref b]) rfl (lt 1516 (by decide +kernel))
  · exact va_Nw.of (A := #[Value.ref b]) rfl (lt 1517 (by decide +kernel))
  · exact va_Nw.of (A := #[Value.ref b]) rfl (lt 1518 (by decide +kernel))
  · exact va_Nw.of (A := #[Value.ref b]) rfl (lt 1519 (by decide +kernel))
  · exact va_Nw.of (A := #[Value.ref b]) rfl (lt 1520 (by decide +kernel))
  · exact va_Nw.of (A := #[Value.ref b]) rfl (lt 1521 (by decide +kernel))
set_option maxHeartbeats 4000000 in
set_option maxRecDepth 20000 in
theorem st_no (hfs : ∀ w ∈ flL, w.before #[Value.ref b] s = true) : ∀ q ∈ castNo, va_Nc q.1 q.2 s := by
  have fl : ∀ (i : Nat) {w : Cond}, flL[i]? = some w → w.before #[Value.ref b] s = true := fun i w h => hfs w (List.mem_of_getElem? h)
  intro q hq
  unfold castNo at hq
  simp only [List.mem_cons, List.not_mem_nil, or_false] at hq
  rcases hq with rfl | rfl | rfl | rfl | rfl | rfl | rfl | rfl | rfl | rfl | rfl | rfl | rfl | rfl | rfl | rfl | rfl | rfl | rfl | rfl | rfl | rfl | rfl | rfl | rfl | rfl | rfl | rfl | rfl | rfl | rfl | rfl | rfl
  · exact va_Nc.of (args := #[Value.ref b]) (fl 13 (by decide +kernel))
  · exact va_Nc.of (args := #[Value.ref b]) (fl 16 (by decide +kernel))
  · exact va_Nc.of (args := #[Value.ref b]) (fl 17 (by decide +kernel))
  · exact va_Nc.of (args := #[Value.ref b]) (fl 18 (by decide +kernel))
  · exact va_Nc.of (args := #[Value.ref b]) (fl 19 (by decide +kernel))
  · exact va_Nc.of (args := #[Value.ref b]) (fl 24 (by decide +kernel))
  · exact va_Nc.of (args := #[Value.ref b]) (fl 27 (by decide +kernel))
  · exact va_Nc.of (args := #[Value.ref b]) (fl 28 (by decide +kernel))
  · exact va_Nc.of (args := #[Value.ref b]) (fl 29 (by decide +kernel))
  · exact va_Nc.of (args := #[Value.ref b]) (fl 30 (by decide +kernel))
  · exact va_Nc.of (args := #[Value.ref b]) (fl 35 (by decide +kernel))
  · exact va_Nc.of (args := #[Value.ref b]) (fl 38 (by decide +kernel))
  · exact va_Nc.of (args := #[Value.ref b]) (fl 39 (by decide +kernel))
  · exact va_Nc.of (args := #[Value.ref b]) (fl 40 (by decide +kernel))
  · exact va_Nc.of (args := #[Value.ref b]) (fl 41 (by decide +kernel))
  · exact va_Nc.of (args := #[Value.ref b]) (fl 46 (by decide +kernel))
  · exact va_Nc.of (args := #[Value.ref b]) (fl 49 (by decide +kernel))
  · exact va_Nc.of (args := #[Value.ref b]) (fl 50 (by decide +kernel))
  · exact va_Nc.of (args := #[Value.ref b]) (fl 51 (by decide +kernel))
  · exact va_Nc.of (args := #[Value.ref b]) (fl 52 (by decide +kernel))
  · exact va_Nc.of (args := #[Value.ref b]) (fl 53 (by decide +kernel))
  · exact va_Nc.of (args := #[Value.ref b]) (fl 58 (by decide +kernel))
  · exact va_Nc.of (args := #[Value.ref b]) (fl 61 (by decide +kernel))
  · exact va_Nc.of (args := #[Value.ref b]) (fl 62 (by decide +kernel))
  · exact va_Nc.of (args := #[Value.ref b]) (fl 63 (by decide +kernel))
  · exact va_Nc.of (args := #[Value.ref b]) (fl 64 (by decide +kernel))
  · exact va_Nc.of (args := #[Value.ref b]) (fl 65 (by decide +kernel))
  · exact va_Nc.of (args := #[Value.ref b]) (fl 70 (by decide +kernel))
  · exact va_Nc.of (args := #[Value.ref b]) (fl 73 (by decide +kernel))
  · exact va_Nc.of (args := #[Value.ref b]) (fl 74 (by decide +kernel))
  · exact va_Nc.of (args := #[Value.ref b]) (fl 75 (by decide +kernel))
  · exact va_Nc.of (args := #[Value.ref b]) (fl 76 (by decide +kernel))
  · exact va_Nc.of (args := #[Value.ref b]) (fl 77 (by decide +kernel))
set_option maxHeartbeats 4000000 in
set_option maxRecDepth 20000 in
theorem st_kp (hts : ∀ w ∈ lw_tbl, w.before #[Value.ref b] s = true) (hgv : (Cond.and given_1 narrow_1).before #[Value.ref b] s = true) : ∃ G : GG, gO G = s.heap.size ∧ Kp G s := by
  have hfs : ∀ w ∈ flL, w.before #[Value.ref b] s = true := flat_of_before _ hgv
  have lt : ∀ (i : Nat) {w : Cond}, lw_tbl[i]? = some w → w.before #[Value.ref b] s = true := fun i w h => hts w (List.mem_of_getElem? h)
  have fl : ∀ (i : Nat) {w : Cond}, flL[i]? = some w → w.before #[Value.ref b] s = true := fun i w h => hfs w (List.mem_of_getElem? h)
  obtain ⟨D, hD⟩ := st_cls hts
  obtain ⟨gc, hgc⟩ := st_arr hts
  have hA : ∀ a : Nat, a < s.heap.size → ¬ s.heap.size ≤ a := fun a h => Nat.not_le.mpr h
  obtain ⟨adK, adV, h1, h2⟩ := st_str (A := fun q => s.heap.size ≤ q) hfs hA
  refine ⟨(s.heap.size, D, gc, adK, adV), rfl, ⟨hD, hgc⟩, Nat.le_refl _, h1, st_ref hts hfs h2, ?_, ?_, st_nest hts, st_yes hts, st_no hfs, ?_⟩
  · exact va_Zof (args := #[Value.ref b]) (lt 410 (by decide +kernel)) (lt 76 (by decide +kernel)) (va_eqt (fl 4 (by decide +kernel))) hA
  · exact va_Zqof (args := #[Value.ref b]) (lt 449 (by decide +kernel)) (lt 79 (by decide +kernel)) (fl 5 (by decide +kernel)) hA
  · exact va_AO.of (A := #[Value.ref b]) (lt 252 (by decide +kernel))
end START
