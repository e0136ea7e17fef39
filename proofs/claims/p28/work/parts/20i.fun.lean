def W_X7_layOut : Nat → Nat → Hp → Int32 → Int32 → Option Hp
  | 0 => fun _ _ _ _ => none
  | n + 1 => fun hd h l1 l2 => (if hd = 2 then (if (25 : Int32) ≤ (l2 : Int32) then W_X7_layOut n 128 h  l1 0 else (if (((((((hi h 2 12) : Int32).toUInt32 >>> ((l2 : Int32).toUInt32 &&& Int32.toUInt32 31)).toInt32) : Int32) &&& (1 : Int32)) : Int32) = 0 then (if ixOK l2 25 = true then (if ((hi h 16 (Int32.toNatClampNeg l2)) : Int32) ≤ 0 then (if (0 : Int32) = 0 then (if (0 : Int32) = 0 then (if (0 : Int32) = 0 then (if (0 : Int32) = 0 then W_X7_layOut n 2 h  l1 (l2 + 1) else ((F_X7_cellOf n h l2).bind (fun q38 => (if ixOK l2 25 = true then (if ixOK l2 25 = true then ((F_X8_soundIn n q38.2 10 q38.1 (hi q38.2 16 (Int32.toNatClampNeg l2)) (hi q38.2 17 (Int32.toNatClampNeg l2))).bind (fun q42 => W_X7_layOut n 2 q42  l1 (l2 + 1))) else none) else none)))) else ((F_X7_cellOf n h l2).bind (fun q44 => (if (0 : Int32) = 0 then W_X7_layOut n 2 (wrI q44.2 10 2 (((hi h 10 2) : Int32) ||| (((1 : Int32) <<< ((q44.1 : Int32) &&& 31)) : Int32)))  l1 (l2 + 1) else ((F_X7_cellOf n (wrI q44.2 10 2 (((hi h 10 2) : Int32) ||| (((1 : Int32) <<< ((q44.1 : Int32) &&& 31)) : Int32))) l2).bind (fun q47 => (if ixOK l2 25 = true then (if ixOK l2 25 = true then ((F_X8_soundIn n q47.2 10 q47.1 (hi q47.2 16 (Int32.toNatClampNeg l2)) (hi q47.2 17 (Int32.toNatClampNeg l2))).bind (fun q51 => W_X7_layOut n 2 q51  l1 (l2 + 1))) else none) else none))))))) else ((F_X7_onLawn n h l2).bind (fun q53 => (if (q53.1 : Int32) = 0 then ((F_X7_blame n q53.2 6 l1).bind (fun q73 => (if (0 : Int32) = 0 then W_X7_layOut n 2 q73  l1 (l2 + 1) else ((F_X7_cellOf n q73 l2).bind (fun q76 => (if ixOK l2 25 = true then (if ixOK l2 25 = true then ((F_X8_soundIn n q76.2 10 q76.1 (hi q76.2 16 (Int32.toNatClampNeg l2)) (hi q76.2 17 (Int32.toNatClampNeg l2))).bind (fun q80 => W_X7_layOut n 2 q80  l1 (l2 + 1))) else none) else none)))))) else (if (0 : Int32) = 0 then (if (0 : Int32) = 0 then W_X7_layOut n 2 q53.2  l1 (l2 + 1) else ((F_X7_cellOf n q53.2 l2).bind (fun q58 => (if ixOK l2 25 = true then (if ixOK l2 25 = true then ((F_X8_soundIn n q58.2 10 q58.1 (hi q58.2 16 (Int32.toNatClampNeg l2)) (hi q58.2 17 (Int32.toNatClampNeg l2))).bind (fun q62 => W_X7_layOut n 2 q62  l1 (l2 + 1))) else none) else none)))) else ((F_X7_cellOf n q53.2 l2).bind (fun q64 => (if (0 : Int32) = 0 then W_X7_layOut n 2 (wrI q64.2 10 2 (((hi q53.2 10 2) : Int32) ||| (((1 : Int32) <<< ((q64.1 : Int32) &&& 31)) : Int32)))  l1 (l2 + 1) else ((F_X7_cellOf n (wrI q64.2 10 2 (((hi q53.2 10 2) : Int32) ||| (((1 : Int32) <<< ((q64.1 : Int32) &&& 31)) : Int32))) l2).bind (fun q67 => (if ixOK l2 25 = true then (if ixOK l2 25 = true then ((F_X8_soundIn n q67.2 10 q67.1 (hi q67.2 16 (Int32.toNatClampNeg l2)) (hi q67.2 17 (Int32.toNatClampNeg l2))).bind (fun q71 => W_X7_layOut n 2 q71  l1 (l2 + 1))) else none) else none))))))))))) else ((F_X7_onLawn n h l2).bind (fun q6 => (if (q6.1 : Int32) = 0 then ((F_X7_blame n q6.2 6 l1).bind (fun q26 => (if (0 : Int32) = 0 then W_X7_layOut n 2 q26  l1 (l2 + 1) else ((F_X7_cellOf n q26 l2).bind (fun q29 => (if ixOK l2 25 = true then (if ixOK l2 25 = true then ((F_X8_soundIn n q29.2 10 q29.1 (hi q29.2 16 (Int32.toNatClampNeg l2)) (hi q29.2 17 (Int32.toNatClampNeg l2))).bind (fun q33 => W_X7_layOut n 2 q33  l1 (l2 + 1))) else none) else none)))))) else (if (0 : Int32) = 0 then (if (0 : Int32) = 0 then W_X7_layOut n 2 q6.2  l1 (l2 + 1) else ((F_X7_cellOf n q6.2 l2).bind (fun q11 => (if ixOK l2 25 = true then (if ixOK l2 25 = true then ((F_X8_soundIn n q11.2 10 q11.1 (hi q11.2 16 (Int32.toNatClampNeg l2)) (hi q11.2 17 (Int32.toNatClampNeg l2))).bind (fun q15 => W_X7_layOut n 2 q15  l1 (l2 + 1))) else none) else none)))) else ((F_X7_cellOf n q6.2 l2).bind (fun q17 => (if (0 : Int32) = 0 then W_X7_layOut n 2 (wrI q17.2 10 2 (((hi q6.2 10 2) : Int32) ||| (((1 : Int32) <<< ((q17.1 : Int32) &&& 31)) : Int32)))  l1 (l2 + 1) else ((F_X7_cellOf n (wrI q17.2 10 2 (((hi q6.2 10 2) : Int32) ||| (((1 : Int32) <<< ((q17.1 : Int32) &&& 31)) : Int32))) l2).bind (fun q20 => (if ixOK l2 25 = true then (if ixOK l2 25 = true then ((F_X8_soundIn n q20.2 10 q20.1 (hi q20.2 16 (Int32.toNatClampNeg l2)) (hi q20.2 17 (Int32.toNatClampNeg l2))).bind (fun q24 => W_X7_layOut n 2 q24  l1 (l2 + 1))) else none) else none))))))))))) else (if (0 : Int32) = 0 then (if (1 : Int32) = 0 then (if (0 : Int32) = 0 then (if (1 : Int32) = 0 then W_X7_layOut n 2 h  l1 (l2 + 1) else ((F_X7_cellOf n h l2).bind (fun q115 => (if ixOK l2 25 = true then (if ixOK l2 25 = true then ((F_X8_soundIn n q115.2 10 q115.1 (hi q115.2 16 (Int32.toNatClampNeg l2)) (hi q115.2 17 (Int32.toNatClampNeg l2))).bind (fun q119 => W_X7_layOut n 2 q119  l1 (l2 + 1))) else none) else none)))) else ((F_X7_cellOf n h l2).bind (fun q121 => (if (1 : Int32) = 0 then W_X7_layOut n 2 (wrI q121.2 10 2 (((hi h 10 2) : Int32) ||| (((1 : Int32) <<< ((q121.1 : Int32) &&& 31)) : Int32)))  l1 (l2 + 1) else ((F_X7_cellOf n (wrI q121.2 10 2 (((hi h 10 2) : Int32) ||| (((1 : Int32) <<< ((q121.1 : Int32) &&& 31)) : Int32))) l2).bind (fun q124 => (if ixOK l2 25 = true then (if ixOK l2 25 = true then ((F_X8_soundIn n q124.2 10 q124.1 (hi q124.2 16 (Int32.toNatClampNeg l2)) (hi q124.2 17 (Int32.toNatClampNeg l2))).bind (fun q128 => W_X7_layOut n 2 q128  l1 (l2 + 1))) else none) else none))))))) else ((F_X7_onLawn n h l2).bind (fun q130 => (if (q130.1 : Int32) = 0 then ((F_X7_blame n q130.2 6 l1).bind (fun q150 => (if (1 : Int32) = 0 then W_X7_layOut n 2 q150  l1 (l2 + 1) else ((F_X7_cellOf n q150 l2).bind (fun q153 => (if ixOK l2 25 = true then (if ixOK l2 25 = true then ((F_X8_soundIn n q153.2 10 q153.1 (hi q153.2 16 (Int32.toNatClampNeg l2)) (hi q153.2 17 (Int32.toNatClampNeg l2))).bind (fun q157 => W_X7_layOut n 2 q157  l1 (l2 + 1))) else none) else none)))))) else (if (0 : Int32) = 0 then (if (1 : Int32) = 0 then W_X7_layOut n 2 q130.2  l1 (l2 + 1) else ((F_X7_cellOf n q130.2 l2).bind (fun q135 => (if ixOK l2 25 = true then (if ixOK l2 25 = true then ((F_X8_soundIn n q135.2 10 q135.1 (hi q135.2 16 (Int32.toNatClampNeg l2)) (hi q135.2 17 (Int32.toNatClampNeg l2))).bind (fun q139 => W_X7_layOut n 2 q139  l1 (l2 + 1))) else none) else none)))) else ((F_X7_cellOf n q130.2 l2).bind (fun q141 => (if (1 : Int32) = 0 then W_X7_layOut n 2 (wrI q141.2 10 2 (((hi q130.2 10 2) : Int32) ||| (((1 : Int32) <<< ((q141.1 : Int32) &&& 31)) : Int32)))  l1 (l2 + 1) else ((F_X7_cellOf n (wrI q141.2 10 2 (((hi q130.2 10 2) : Int32) ||| (((1 : Int32) <<< ((q141.1 : Int32) &&& 31)) : Int32))) l2).bind (fun q144 => (if ixOK l2 25 = true then (if ixOK l2 25 = true then ((F_X8_soundIn n q144.2 10 q144.1 (hi q144.2 16 (Int32.toNatClampNeg l2)) (hi q144.2 17 (Int32.toNatClampNeg l2))).bind (fun q148 => W_X7_layOut n 2 q148  l1 (l2 + 1))) else none) else none))))))))))) else ((F_X7_onLawn n h l2).bind (fun q83 => (if (q83.1 : Int32) = 0 then ((F_X7_blame n q83.2 6 l1).bind (fun q103 => (if (1 : Int32) = 0 then W_X7_layOut n 2 q103  l1 (l2 + 1) else ((F_X7_cellOf n q103 l2).bind (fun q106 => (if ixOK l2 25 = true then (if ixOK l2 25 = true then ((F_X8_soundIn n q106.2 10 q106.1 (hi q106.2 16 (Int32.toNatClampNeg l2)) (hi q106.2 17 (Int32.toNatClampNeg l2))).bind (fun q110 => W_X7_layOut n 2 q110  l1 (l2 + 1))) else none) else none)))))) else (if (0 : Int32) = 0 then (if (1 : Int32) = 0 then W_X7_layOut n 2 q83.2  l1 (l2 + 1) else ((F_X7_cellOf n q83.2 l2).bind (fun q88 => (if ixOK l2 25 = true then (if ixOK l2 25 = true then ((F_X8_soundIn n q88.2 10 q88.1 (hi q88.2 16 (Int32.toNatClampNeg l2)) (hi q88.2 17 (Int32.toNatClampNeg l2))).bind (fun q92 => W_X7_layOut n 2 q92  l1 (l2 + 1))) else none) else none)))) else ((F_X7_cellOf n q83.2 l2).bind (fun q94 => (if (1 : Int32) = 0 then W_X7_layOut n 2 (wrI q94.2 10 2 (((hi q83.2 10 2) : Int32) ||| (((1 : Int32) <<< ((q94.1 : Int32) &&& 31)) : Int32)))  l1 (l2 + 1) else ((F_X7_cellOf n (wrI q94.2 10 2 (((hi q83.2 10 2) : Int32) ||| (((1 : Int32) <<< ((q94.1 : Int32) &&& 31)) : Int32))) l2).bind (fun q97 => (if ixOK l2 25 = true then (if ixOK l2 25 = true then ((F_X8_soundIn n q97.2 10 q97.1 (hi q97.2 16 (Int32.toNatClampNeg l2)) (hi q97.2 17 (Int32.toNatClampNeg l2))).bind (fun q101 => W_X7_layOut n 2 q101  l1 (l2 + 1))) else none) else none)))))))))))) else none) else (if ixOK l2 25 = true then (if ((hi h 16 (Int32.toNatClampNeg l2)) : Int32) ≤ 0 then (if (1 : Int32) = 0 then (if (0 : Int32) = 0 then (if (1 : Int32) = 0 then (if (0 : Int32) = 0 then W_X7_layOut n 2 h  l1 (l2 + 1) else ((F_X7_cellOf n h l2).bind (fun q194 => (if ixOK l2 25 = true then (if ixOK l2 25 = true then ((F_X8_soundIn n q194.2 10 q194.1 (hi q194.2 16 (Int32.toNatClampNeg l2)) (hi q194.2 17 (Int32.toNatClampNeg l2))).bind (fun q198 => W_X7_layOut n 2 q198  l1 (l2 + 1))) else none) else none)))) else ((F_X7_cellOf n h l2).bind (fun q200 => (if (0 : Int32) = 0 then W_X7_layOut n 2 (wrI q200.2 10 2 (((hi h 10 2) : Int32) ||| (((1 : Int32) <<< ((q200.1 : Int32) &&& 31)) : Int32)))  l1 (l2 + 1) else ((F_X7_cellOf n (wrI q200.2 10 2 (((hi h 10 2) : Int32) ||| (((1 : Int32) <<< ((q200.1 : Int32) &&& 31)) : Int32))) l2).bind (fun q203 => (if ixOK l2 25 = true then (if ixOK l2 25 = true then ((F_X8_soundIn n q203.2 10 q203.1 (hi q203.2 16 (Int32.toNatClampNeg l2)) (hi q203.2 17 (Int32.toNatClampNeg l2))).bind (fun q207 => W_X7_layOut n 2 q207  l1 (l2 + 1))) else none) else none))))))) else ((F_X7_onLawn n h l2).bind (fun q209 => (if (q209.1 : Int32) = 0 then ((F_X7_blame n q209.2 6 l1).bind (fun q229 => (if (0 : Int32) = 0 then W_X7_layOut n 2 q229  l1 (l2 + 1) else ((F_X7_cellOf n q229 l2).bind (fun q232 => (if ixOK l2 25 = true then (if ixOK l2 25 = true then ((F_X8_soundIn n q232.2 10 q232.1 (hi q232.2 16 (Int32.toNatClampNeg l2)) (hi q232.2 17 (Int32.toNatClampNeg l2))).bind (fun q236 => W_X7_layOut n 2 q236  l1 (l2 + 1))) else none) else none)))))) else (if (1 : Int32) = 0 then (if (0 : Int32) = 0 then W_X7_layOut n 2 q209.2  l1 (l2 + 1) else ((F_X7_cellOf n q209.2 l2).bind (fun q214 => (if ixOK l2 25 = true then (if ixOK l2 25 = true then ((F_X8_soundIn n q214.2 10 q214.1 (hi q214.2 16 (Int32.toNatClampNeg l2)) (hi q214.2 17 (Int32.toNatClampNeg l2))).bind (fun q218 => W_X7_layOut n 2 q218  l1 (l2 + 1))) else none) else none)))) else ((F_X7_cellOf n q209.2 l2).bind (fun q220 => (if (0 : Int32) = 0 then W_X7_layOut n 2 (wrI q220.2 10 2 (((hi q209.2 10 2) : Int32) ||| (((1 : Int32) <<< ((q220.1 : Int32) &&& 31)) : Int32)))  l1 (l2 + 1) else ((F_X7_cellOf n (wrI q220.2 10 2 (((hi q209.2 10 2) : Int32) ||| (((1 : Int32) <<< ((q220.1 : Int32) &&& 31)) : Int32))) l2).bind (fun q223 => (if ixOK l2 25 = true then (if ixOK l2 25 = true then ((F_X8_soundIn n q223.2 10 q223.1 (hi q223.2 16 (Int32.toNatClampNeg l2)) (hi q223.2 17 (Int32.toNatClampNeg l2))).bind (fun q227 => W_X7_layOut n 2 q227  l1 (l2 + 1))) else none) else none))))))))))) else ((F_X7_onLawn n h l2).bind (fun q162 => (if (q162.1 : Int32) = 0 then ((F_X7_blame n q162.2 6 l1).bind (fun q182 => (if (0 : Int32) = 0 then W_X7_layOut n 2 q182  l1 (l2 + 1) else ((F_X7_cellOf n q182 l2).bind (fun q185 => (if ixOK l2 25 = true then (if ixOK l2 25 = true then ((F_X8_soundIn n q185.2 10 q185.1 (hi q185.2 16 (Int32.toNatClampNeg l2)) (hi q185.2 17 (Int32.toNatClampNeg l2))).bind (fun q189 => W_X7_layOut n 2 q189  l1 (l2 + 1))) else none) else none)))))) else (if (1 : Int32) = 0 then (if (0 : Int32) = 0 then W_X7_layOut n 2 q162.2  l1 (l2 + 1) else ((F_X7_cellOf n q162.2 l2).bind (fun q167 => (if ixOK l2 25 = true then (if ixOK l2 25 = true then ((F_X8_soundIn n q167.2 10 q167.1 (hi q167.2 16 (Int32.toNatClampNeg l2)) (hi q167.2 17 (Int32.toNatClampNeg l2))).bind (fun q171 => W_X7_layOut n 2 q171  l1 (l2 + 1))) else none) else none)))) else ((F_X7_cellOf n q162.2 l2).bind (fun q173 => (if (0 : Int32) = 0 then W_X7_layOut n 2 (wrI q173.2 10 2 (((hi q162.2 10 2) : Int32) ||| (((1 : Int32) <<< ((q173.1 : Int32) &&& 31)) : Int32)))  l1 (l2 + 1) else ((F_X7_cellOf n (wrI q173.2 10 2 (((hi q162.2 10 2) : Int32) ||| (((1 : Int32) <<< ((q173.1 : Int32) &&& 31)) : Int32))) l2).bind (fun q176 => (if ixOK l2 25 = true then (if ixOK l2 25 = true then ((F_X8_soundIn n q176.2 10 q176.1 (hi q176.2 16 (Int32.toNatClampNeg l2)) (hi q176.2 17 (Int32.toNatClampNeg l2))).bind (fun q180 => W_X7_layOut n 2 q180  l1 (l2 + 1))) else none) else none))))))))))) else (if (1 : Int32) = 0 then (if (1 : Int32) = 0 then (if (1 : Int32) = 0 then (if (1 : Int32) = 0 then W_X7_layOut n 2 h  l1 (l2 + 1) else ((F_X7_cellOf n h l2).bind (fun q271 => (if ixOK l2 25 = true then (if ixOK l2 25 = true then ((F_X8_soundIn n q271.2 10 q271.1 (hi q271.2 16 (Int32.toNatClampNeg l2)) (hi q271.2 17 (Int32.toNatClampNeg l2))).bind (fun q275 => W_X7_layOut n 2 q275  l1 (l2 + 1))) else none) else none)))) else ((F_X7_cellOf n h l2).bind (fun q277 => (if (1 : Int32) = 0 then W_X7_layOut n 2 (wrI q277.2 10 2 (((hi h 10 2) : Int32) ||| (((1 : Int32) <<< ((q277.1 : Int32) &&& 31)) : Int32)))  l1 (l2 + 1) else ((F_X7_cellOf n (wrI q277.2 10 2 (((hi h 10 2) : Int32) ||| (((1 : Int32) <<< ((q277.1 : Int32) &&& 31)) : Int32))) l2).bind (fun q280 => (if ixOK l2 25 = true then (if ixOK l2 25 = true then ((F_X8_soundIn n q280.2 10 q280.1 (hi q280.2 16 (Int32.toNatClampNeg l2)) (hi q280.2 17 (Int32.toNatClampNeg l2))).bind (fun q284 => W_X7_layOut n 2 q284  l1 (l2 + 1))) else none) else none))))))) else ((F_X7_onLawn n h l2).bind (fun q286 => (if (q286.1 : Int32) = 0 then ((F_X7_blame n q286.2 6 l1).bind (fun q306 => (if (1 : Int32) = 0 then W_X7_layOut n 2 q306  l1 (l2 + 1) else ((F_X7_cellOf n q306 l2).bind (fun q309 => (if ixOK l2 25 = true then (if ixOK l2 25 = true then ((F_X8_soundIn n q309.2 10 q309.1 (hi q309.2 16 (Int32.toNatClampNeg l2)) (hi q309.2 17 (Int32.toNatClampNeg l2))).bind (fun q313 => W_X7_layOut n 2 q313  l1 (l2 + 1))) else none) else none)))))) else (if (1 : Int32) = 0 then (if (1 : Int32) = 0 then W_X7_layOut n 2 q286.2  l1 (l2 + 1) else ((F_X7_cellOf n q286.2 l2).bind (fun q291 => (if ixOK l2 25 = true then (if ixOK l2 25 = true then ((F_X8_soundIn n q291.2 10 q291.1 (hi q291.2 16 (Int32.toNatClampNeg l2)) (hi q291.2 17 (Int32.toNatClampNeg l2))).bind (fun q295 => W_X7_layOut n 2 q295  l1 (l2 + 1))) else none) else none)))) else ((F_X7_cellOf n q286.2 l2).bind (fun q297 => (if (1 : Int32) = 0 then W_X7_layOut n 2 (wrI q297.2 10 2 (((hi q286.2 10 2) : Int32) ||| (((1 : Int32) <<< ((q297.1 : Int32) &&& 31)) : Int32)))  l1 (l2 + 1) else ((F_X7_cellOf n (wrI q297.2 10 2 (((hi q286.2 10 2) : Int32) ||| (((1 : Int32) <<< ((q297.1 : Int32) &&& 31)) : Int32))) l2).bind (fun q300 => (if ixOK l2 25 = true then (if ixOK l2 25 = true then ((F_X8_soundIn n q300.2 10 q300.1 (hi q300.2 16 (Int32.toNatClampNeg l2)) (hi q300.2 17 (Int32.toNatClampNeg l2))).bind (fun q304 => W_X7_layOut n 2 q304  l1 (l2 + 1))) else none) else none))))))))))) else ((F_X7_onLawn n h l2).bind (fun q239 => (if (q239.1 : Int32) = 0 then ((F_X7_blame n q239.2 6 l1).bind (fun q259 => (if (1 : Int32) = 0 then W_X7_layOut n 2 q259  l1 (l2 + 1) else ((F_X7_cellOf n q259 l2).bind (fun q262 => (if ixOK l2 25 = true then (if ixOK l2 25 = true then ((F_X8_soundIn n q262.2 10 q262.1 (hi q262.2 16 (Int32.toNatClampNeg l2)) (hi q262.2 17 (Int32.toNatClampNeg l2))).bind (fun q266 => W_X7_layOut n 2 q266  l1 (l2 + 1))) else none) else none)))))) else (if (1 : Int32) = 0 then (if (1 : Int32) = 0 then W_X7_layOut n 2 q239.2  l1 (l2 + 1) else ((F_X7_cellOf n q239.2 l2).bind (fun q244 => (if ixOK l2 25 = true then (if ixOK l2 25 = true then ((F_X8_soundIn n q244.2 10 q244.1 (hi q244.2 16 (Int32.toNatClampNeg l2)) (hi q244.2 17 (Int32.toNatClampNeg l2))).bind (fun q248 => W_X7_layOut n 2 q248  l1 (l2 + 1))) else none) else none)))) else ((F_X7_cellOf n q239.2 l2).bind (fun q250 => (if (1 : Int32) = 0 then W_X7_layOut n 2 (wrI q250.2 10 2 (((hi q239.2 10 2) : Int32) ||| (((1 : Int32) <<< ((q250.1 : Int32) &&& 31)) : Int32)))  l1 (l2 + 1) else ((F_X7_cellOf n (wrI q250.2 10 2 (((hi q239.2 10 2) : Int32) ||| (((1 : Int32) <<< ((q250.1 : Int32) &&& 31)) : Int32))) l2).bind (fun q253 => (if ixOK l2 25 = true then (if ixOK l2 25 = true then ((F_X8_soundIn n q253.2 10 q253.1 (hi q253.2 16 (Int32.toNatClampNeg l2)) (hi q253.2 17 (Int32.toNatClampNeg l2))).bind (fun q257 => W_X7_layOut n 2 q257  l1 (l2 + 1))) else none) else none)))))))))))) else none))) else (if hd = 128 then (if ((hi h 3 2) : Int32) ≤ (l2 : Int32) then some h else (if (5 : Int32) ≤ (l2 : Int32) then some h else (if ixOK l2 5 = true then ((F_X7_onLawn n h (hi h 15 (Int32.toNatClampNeg l2))).bind (fun q318 => (if (q318.1 : Int32) = 0 then ((F_X7_blame n q318.2 6 l1).bind (fun q321 => ((F_X7_cellOf n q321 (hi h 15 (Int32.toNatClampNeg l2))).bind (fun q323 => (if ixOK l2 5 = true then W_X7_layOut n 128 (wrI q323.2 12 (Int32.toNatClampNeg l2) q323.1)  l1 (l2 + 1) else none))))) else (if (((((((hi q318.2 2 12) : Int32).toUInt32 >>> (((hi h 15 (Int32.toNatClampNeg l2)) : Int32).toUInt32 &&& Int32.toUInt32 31)).toInt32) : Int32) &&& (1 : Int32)) : Int32) = 0 then ((F_X7_cellOf n q318.2 (hi h 15 (Int32.toNatClampNeg l2))).bind (fun q327 => (if ixOK l2 5 = true then W_X7_layOut n 128 (wrI q327.2 12 (Int32.toNatClampNeg l2) q327.1)  l1 (l2 + 1) else none))) else ((F_X7_blame n q318.2 6 l1).bind (fun q330 => ((F_X7_cellOf n q330 (hi h 15 (Int32.toNatClampNeg l2))).bind (fun q332 => (if ixOK l2 5 = true then W_X7_layOut n 128 (wrI q332.2 12 (Int32.toNatClampNeg l2) q332.1)  l1 (l2 + 1) else none))))))))) else none))) else none))
set_option maxRecDepth 100000 in
set_option maxHeartbeats 4000000 in
theorem sw_X7_layOut (d : Nat)  (n : Nat) : (∀ (l1 : Int32) (l2 : Int32) (h : Hp), ∀ (h' : Hp), W_X7_layOut n 2 h  l1 l2 = some h' → G h → V mX7_layOut (d + 1) 2 [some (.ref 2), some (.int l1), some (.int l2), none, none] [] h (fun r1 h1 => r1 = none ∧ h1 = h' ∧ G h')) ∧ (∀ (l1 : Int32) (l2 : Int32) (h : Hp), ∀ (h' : Hp), W_X7_layOut n 128 h  l1 l2 = some h' → G h → V mX7_layOut (d + 1) 128 [some (.ref 2), some (.int l1), some (.int l2), none, none] [] h (fun r1 h1 => r1 = none ∧ h1 = h' ∧ G h')) := by
  induction n with
  | zero => exact ⟨by intros; contradiction, by intros; contradiction⟩
  | succ n ih =>
    obtain ⟨s_X7_layOut_IH_2, s_X7_layOut_IH_128⟩ := ih
    refine ⟨?_, ?_⟩
    · intro l1 l2 h h' hF hG
      unfold W_X7_layOut at hF
      rw [if_pos rfl] at hF
      refine v_iload_n (i := 2) dX7_layOut_2 rfl rfl ?_
      refine v_bipush (v := 25) dX7_layOut_3 (by decide) ?_
      refine v_icmp_ge 126 dX7_layOut_5 (by decide) (fun c1 => ?_) (fun c1 => ?_)
      · rw [if_pos c1] at hF
        refine v_iconst (v := 0) dX7_layOut_126 (by decide) ?_
        refine v_istore_n (i := 2) dX7_layOut_127 rfl (by decide) (nlT rfl) ?_
        simp only [List.set_cons_zero, List.set_cons_succ]
        refine V.weak (la2 := [some (.ref 2), some (.int l1), some (.int 0), none, none]) (by simp [wk]) ?_
        exact (s_X7_layOut_IH_128) _ _ _ _ hF hG
      · rw [if_neg c1] at hF
        refine v_aload_n (i := 0) dX7_layOut_8 rfl rfl ?_
        refine g_X7_55 rfl sh_2 (by exact ltG hG (by decide)) dX7_layOut_9 ?_
        refine v_iload_n (i := 2) dX7_layOut_12 rfl rfl ?_
        refine v_iushr dX7_layOut_13 ?_
        refine v_iconst (v := 1) dX7_layOut_14 (by decide) ?_
        refine v_iand dX7_layOut_15 ?_
        refine v_if_eq 23 dX7_layOut_16 (by decide) (fun c2 => ?_) (fun c2 => ?_)
        · rw [if_pos c2] at hF
          refine v_iconst (v := 0) dX7_layOut_23 (by decide) ?_
          refine v_istore_n (i := 3) dX7_layOut_24 rfl (by decide) (nlT rfl) ?_
          simp only [List.set_cons_zero, List.set_cons_succ]
          refine v_aload_n (i := 0) dX7_layOut_25 rfl rfl ?_
          refine g_X7_49 (q := 16) rfl sh_2 (by exact ltG hG (by decide)) (by exact rG hG r0_2_10) dX7_layOut_26 ?_
          refine v_iload_n (i := 2) dX7_layOut_29 rfl rfl ?_
          obtain ⟨k3, hF⟩ := ck_some hF
          refine v_iaload sh_16 (by exact ltG hG (by decide)) (ixO k3) dX7_layOut_30 ?_
          refine v_if_le 38 dX7_layOut_31 (by decide) (fun c4 => ?_) (fun c4 => ?_)
          · rw [if_pos c4] at hF
            refine v_iconst (v := 0) dX7_layOut_38 (by decide) ?_
            refine v_istore (i := 4) dX7_layOut_39 (by decide) (nlT rfl) ?_
            simp only [List.set_cons_zero, List.set_cons_succ]
            refine v_iload_n (i := 3) dX7_layOut_41 rfl rfl ?_
            refine v_if_ne 50 dX7_layOut_42 (by decide) (fun c5 => ?_) (fun c5 => ?_)
            · rw [if_neg c5] at hF
              refine v_aload_n (i := 0) dX7_layOut_50 rfl rfl ?_
              refine v_iload_n (i := 2) dX7_layOut_51 rfl rfl ?_
              obtain ⟨q6, q6_e, hF⟩ := Option.bind_eq_some_iff.mp hF
              refine c_X7_192 rfl sh_2 (by exact ltG hG (by decide)) (Nat.le_of_ble_eq_true rfl) dX7_layOut_52 (s_X7_onLawn _ q6_e hG) (fun r1 h1 hq => ?_)
              obtain ⟨rfl, hq, hG⟩ := hq
              replace hq := hq.symm
              subst hq
              show V _ _ _ _ (_ :: _) _ _
              refine v_if_ne 68 dX7_layOut_55 (by decide) (fun c8 => ?_) (fun c8 => ?_)
              · rw [if_neg c8] at hF
                refine v_iload_n (i := 3) dX7_layOut_68 rfl rfl ?_
                refine v_if_eq 91 dX7_layOut_69 (by decide) (fun c9 => ?_) (fun c9 => ?_)
                · rw [if_pos c9] at hF
                  refine v_iload (i := 4) dX7_layOut_91 rfl ?_
                  refine v_if_eq 120 dX7_layOut_93 (by decide) (fun c10 => ?_) (fun c10 => ?_)
                  · rw [if_pos c10] at hF
                    refine v_iinc (i := 2) (v := (l2 + 1)) dX7_layOut_120 rfl rfl (by decide) (nlT rfl) ?_
                    simp only [List.set_cons_zero, List.set_cons_succ]
                    refine v_goto 2 dX7_layOut_123 (by decide) ?_
                    refine V.weak (la2 := [some (.ref 2), some (.int l1), some (.int (l2 + 1)), none, none]) (by simp [wk]) ?_
                    exact (s_X7_layOut_IH_2) _ _ _ _ hF hG
                  · rw [if_neg c10] at hF
                    refine v_aload_n (i := 0) dX7_layOut_96 rfl rfl ?_
                    refine g_X7_21 (q := 10) rfl sh_2 (by exact ltG hG (by decide)) (by exact rG hG r0_2_1) dX7_layOut_97 ?_
                    refine v_aload_n (i := 0) dX7_layOut_100 rfl rfl ?_
                    refine v_iload_n (i := 2) dX7_layOut_101 rfl rfl ?_
                    obtain ⟨q11, q11_e, hF⟩ := Option.bind_eq_some_iff.mp hF
                    refine c_X7_198 rfl sh_2 (by exact ltG hG (by decide)) (Nat.le_of_ble_eq_true rfl) dX7_layOut_102 (s_X7_cellOf _ q11_e hG) (fun r1 h1 hq => ?_)
                    obtain ⟨rfl, hq, hG⟩ := hq
                    replace hq := hq.symm
                    subst hq
                    show V _ _ _ _ (_ :: _) _ _
                    refine v_aload_n (i := 0) dX7_layOut_105 rfl rfl ?_
                    refine g_X7_49 (q := 16) rfl sh_2 (by exact ltG hG (by decide)) (by exact rG hG r0_2_10) dX7_layOut_106 ?_
                    refine v_iload_n (i := 2) dX7_layOut_109 rfl rfl ?_
                    obtain ⟨k13, hF⟩ := ck_some hF
                    refine v_iaload sh_16 (by exact ltG hG (by decide)) (ixO k13) dX7_layOut_110 ?_
                    refine v_aload_n (i := 0) dX7_layOut_111 rfl rfl ?_
                    refine g_X7_52 (q := 17) rfl sh_2 (by exact ltG hG (by decide)) (by exact rG hG r0_2_11) dX7_layOut_112 ?_
                    refine v_iload_n (i := 2) dX7_layOut_115 rfl rfl ?_
                    obtain ⟨k14, hF⟩ := ck_some hF
                    refine v_iaload sh_17 (by exact ltG hG (by decide)) (ixO k14) dX7_layOut_116 ?_
                    obtain ⟨q15, q15_e, hF⟩ := Option.bind_eq_some_iff.mp hF
                    refine c_X7_201 rfl sh_10 (by exact ltG hG (by decide)) (Nat.le_of_ble_eq_true rfl) dX7_layOut_117 (s_X8_soundIn _ q15_e hG (by first | assumption | exact sc_30 | exact sc_34 | exact sc_10 | exact fd_24 | exact fd_4 | exact lw_25 | exact lw_5 | exact bd_23 | exact bd_3 | exact ⟨by first | assumption | rfl, by first | decide | omega⟩)) (fun r1 h1 hq => ?_)
                    obtain ⟨rfl, hq, hG⟩ := hq
                    replace hq := hq.symm
                    subst hq
                    simp only [Option.toList, List.nil_append]
                    refine v_iinc (i := 2) (v := (l2 + 1)) dX7_layOut_120 rfl rfl (by decide) (nlT rfl) ?_
                    simp only [List.set_cons_zero, List.set_cons_succ]
                    refine v_goto 2 dX7_layOut_123 (by decide) ?_
                    refine V.weak (la2 := [some (.ref 2), some (.int l1), some (.int (l2 + 1)), none, none]) (by simp [wk]) ?_
                    exact (s_X7_layOut_IH_2) _ _ _ _ hF hG
                · rw [if_neg c9] at hF
                  refine v_aload_n (i := 0) dX7_layOut_72 rfl rfl ?_
                  refine g_X7_21 (q := 10) rfl sh_2 (by exact ltG hG (by decide)) (by exact rG hG r0_2_1) dX7_layOut_73 ?_
                  refine v_dup dX7_layOut_76 rfl ?_
                  refine g_X7_195 rfl sh_10 (by exact ltG hG (by decide)) dX7_layOut_77 ?_
                  refine v_iconst (v := 1) dX7_layOut_80 (by decide) ?_
                  refine v_aload_n (i := 0) dX7_layOut_81 rfl rfl ?_
                  refine v_iload_n (i := 2) dX7_layOut_82 rfl rfl ?_
                  obtain ⟨q17, q17_e, hF⟩ := Option.bind_eq_some_iff.mp hF
                  refine c_X7_198 rfl sh_2 (by exact ltG hG (by decide)) (Nat.le_of_ble_eq_true rfl) dX7_layOut_83 (s_X7_cellOf _ q17_e hG) (fun r1 h1 hq => ?_)
                  obtain ⟨rfl, hq, hG⟩ := hq
                  replace hq := hq.symm
                  subst hq
                  show V _ _ _ _ (_ :: _) _ _
                  refine v_ishl dX7_layOut_86 ?_
                  refine v_ior dX7_layOut_87 ?_
                  refine p_X7_195 rfl sh_10 (by exact ltG hG (by decide)) dX7_layOut_88 ?_
                  refine v_iload (i := 4) dX7_layOut_91 rfl ?_
                  refine v_if_eq 120 dX7_layOut_93 (by decide) (fun c19 => ?_) (fun c19 => ?_)
                  · rw [if_pos c19] at hF
                    refine v_iinc (i := 2) (v := (l2 + 1)) dX7_layOut_120 rfl rfl (by decide) (nlT rfl) ?_
                    simp only [List.set_cons_zero, List.set_cons_succ]
                    refine v_goto 2 dX7_layOut_123 (by decide) ?_
                    refine V.weak (la2 := [some (.ref 2), some (.int l1), some (.int (l2 + 1)), none, none]) (by simp [wk]) ?_
                    exact (s_X7_layOut_IH_2) _ _ _ _ hF hG
                  · rw [if_neg c19] at hF
                    refine v_aload_n (i := 0) dX7_layOut_96 rfl rfl ?_
                    refine g_X7_21 (q := 10) rfl sh_2 (by exact ltG hG (by decide)) (by exact rG hG r0_2_1) dX7_layOut_97 ?_
                    refine v_aload_n (i := 0) dX7_layOut_100 rfl rfl ?_
                    refine v_iload_n (i := 2) dX7_layOut_101 rfl rfl ?_
                    obtain ⟨q20, q20_e, hF⟩ := Option.bind_eq_some_iff.mp hF
                    refine c_X7_198 rfl sh_2 (by exact ltG hG (by decide)) (Nat.le_of_ble_eq_true rfl) dX7_layOut_102 (s_X7_cellOf _ q20_e hG) (fun r1 h1 hq => ?_)
                    obtain ⟨rfl, hq, hG⟩ := hq
                    replace hq := hq.symm
                    subst hq
                    show V _ _ _ _ (_ :: _) _ _
                    refine v_aload_n (i := 0) dX7_layOut_105 rfl rfl ?_
                    refine g_X7_49 (q := 16) rfl sh_2 (by exact ltG hG (by decide)) (by exact rG hG r0_2_10) dX7_layOut_106 ?_
                    refine v_iload_n (i := 2) dX7_layOut_109 rfl rfl ?_
                    obtain ⟨k22, hF⟩ := ck_some hF
                    refine v_iaload sh_16 (by exact ltG hG (by decide)) (ixO k22) dX7_layOut_110 ?_
                    refine v_aload_n (i := 0) dX7_layOut_111 rfl rfl ?_
                    refine g_X7_52 (q := 17) rfl sh_2 (by exact ltG hG (by decide)) (by exact rG hG r0_2_11) dX7_layOut_112 ?_
                    refine v_iload_n (i := 2) dX7_layOut_115 rfl rfl ?_
                    obtain ⟨k23, hF⟩ := ck_some hF
                    refine v_iaload sh_17 (by exact ltG hG (by decide)) (ixO k23) dX7_layOut_116 ?_
                    obtain ⟨q24, q24_e, hF⟩ := Option.bind_eq_some_iff.mp hF
                    refine c_X7_201 rfl sh_10 (by exact ltG hG (by decide)) (Nat.le_of_ble_eq_true rfl) dX7_layOut_117 (s_X8_soundIn _ q24_e hG (by first | assumption | exact sc_30 | exact sc_34 | exact sc_10 | exact fd_24 | exact fd_4 | exact lw_25 | exact lw_5 | exact bd_23 | exact bd_3 | exact ⟨by first | assumption | rfl, by first | decide | omega⟩)) (fun r1 h1 hq => ?_)
                    obtain ⟨rfl, hq, hG⟩ := hq
                    replace hq := hq.symm
                    subst hq
                    simp only [Option.toList, List.nil_append]
                    refine v_iinc (i := 2) (v := (l2 + 1)) dX7_layOut_120 rfl rfl (by decide) (nlT rfl) ?_
                    simp only [List.set_cons_zero, List.set_cons_succ]
                    refine v_goto 2 dX7_layOut_123 (by decide) ?_
                    refine V.weak (la2 := [some (.ref 2), some (.int l1), some (.int (l2 + 1)), none, none]) (by simp [wk]) ?_
                    exact (s_X7_layOut_IH_2) _ _ _ _ hF hG
              · rw [if_pos c8] at hF
                refine v_aload_n (i := 0) dX7_layOut_58 rfl rfl ?_
                refine v_bipush (v := 6) dX7_layOut_59 (by decide) ?_
                refine v_iload_n (i := 1) dX7_layOut_61 rfl rfl ?_
                obtain ⟨q26, q26_e, hF⟩ := Option.bind_eq_some_iff.mp hF
                refine c_X7_141 rfl sh_2 (by exact ltG hG (by decide)) (Nat.le_of_ble_eq_true rfl) dX7_layOut_62 (s_X7_blame _ q26_e hG) (fun r1 h1 hq => ?_)
                obtain ⟨rfl, hq, hG⟩ := hq
                replace hq := hq.symm
                subst hq
                simp only [Option.toList, List.nil_append]
                refine v_goto 91 dX7_layOut_65 (by decide) ?_
                refine v_iload (i := 4) dX7_layOut_91 rfl ?_
                refine v_if_eq 120 dX7_layOut_93 (by decide) (fun c28 => ?_) (fun c28 => ?_)
                · rw [if_pos c28] at hF
                  refine v_iinc (i := 2) (v := (l2 + 1)) dX7_layOut_120 rfl rfl (by decide) (nlT rfl) ?_
                  simp only [List.set_cons_zero, List.set_cons_succ]
                  refine v_goto 2 dX7_layOut_123 (by decide) ?_
                  refine V.weak (la2 := [some (.ref 2), some (.int l1), some (.int (l2 + 1)), none, none]) (by simp [wk]) ?_
                  exact (s_X7_layOut_IH_2) _ _ _ _ hF hG
                · rw [if_neg c28] at hF
                  refine v_aload_n (i := 0) dX7_layOut_96 rfl rfl ?_
                  refine g_X7_21 (q := 10) rfl sh_2 (by exact ltG hG (by decide)) (by exact rG hG r0_2_1) dX7_layOut_97 ?_
                  refine v_aload_n (i := 0) dX7_layOut_100 rfl rfl ?_
                  refine v_iload_n (i := 2) dX7_layOut_101 rfl rfl ?_
                  obtain ⟨q29, q29_e, hF⟩ := Option.bind_eq_some_iff.mp hF
                  refine c_X7_198 rfl sh_2 (by exact ltG hG (by decide)) (Nat.le_of_ble_eq_true rfl) dX7_layOut_102 (s_X7_cellOf _ q29_e hG) (fun r1 h1 hq => ?_)
                  obtain ⟨rfl, hq, hG⟩ := hq
                  replace hq := hq.symm
                  subst hq
                  show V _ _ _ _ (_ :: _) _ _
                  refine v_aload_n (i := 0) dX7_layOut_105 rfl rfl ?_
                  refine g_X7_49 (q := 16) rfl sh_2 (by exact ltG hG (by decide)) (by exact rG hG r0_2_10) dX7_layOut_106 ?_
                  refine v_iload_n (i := 2) dX7_layOut_109 rfl rfl ?_
                  obtain ⟨k31, hF⟩ := ck_some hF
                  refine v_iaload sh_16 (by exact ltG hG (by decide)) (ixO k31) dX7_layOut_110 ?_
                  refine v_aload_n (i := 0) dX7_layOut_111 rfl rfl ?_
                  refine g_X7_52 (q := 17) rfl sh_2 (by exact ltG hG (by decide)) (by exact rG hG r0_2_11) dX7_layOut_112 ?_
                  refine v_iload_n (i := 2) dX7_layOut_115 rfl rfl ?_
                  obtain ⟨k32, hF⟩ := ck_some hF
                  refine v_iaload sh_17 (by exact ltG hG (by decide)) (ixO k32) dX7_layOut_116 ?_
                  obtain ⟨q33, q33_e, hF⟩ := Option.bind_eq_some_iff.mp hF
                  refine c_X7_201 rfl sh_10 (by exact ltG hG (by decide)) (Nat.le_of_ble_eq_true rfl) dX7_layOut_117 (s_X8_soundIn _ q33_e hG (by first | assumption | exact sc_30 | exact sc_34 | exact sc_10 | exact fd_24 | exact fd_4 | exact lw_25 | exact lw_5 | exact bd_23 | exact bd_3 | exact ⟨by first | assumption | rfl, by first | decide | omega⟩)) (fun r1 h1 hq => ?_)
                  obtain ⟨rfl, hq, hG⟩ := hq
                  replace hq := hq.symm
                  subst hq
                  simp only [Option.toList, List.nil_append]
                  refine v_iinc (i := 2) (v := (l2 + 1)) dX7_layOut_120 rfl rfl (by decide) (nlT rfl) ?_
                  simp only [List.set_cons_zero, List.set_cons_succ]
                  refine v_goto 2 dX7_layOut_123 (by decide) ?_
                  refine V.weak (la2 := [some (.ref 2), some (.int l1), some (.int (l2 + 1)), none, none]) (by simp [wk]) ?_
                  exact (s_X7_layOut_IH_2) _ _ _ _ hF hG
            · rw [if_pos c5] at hF
              refine v_iload (i := 4) dX7_layOut_45 rfl ?_
              refine v_if_eq 68 dX7_layOut_47 (by decide) (fun c35 => ?_) (fun c35 => ?_)
              · rw [if_pos c35] at hF
                refine v_iload_n (i := 3) dX7_layOut_68 rfl rfl ?_
                refine v_if_eq 91 dX7_layOut_69 (by decide) (fun c36 => ?_) (fun c36 => ?_)
                · rw [if_pos c36] at hF
                  refine v_iload (i := 4) dX7_layOut_91 rfl ?_
                  refine v_if_eq 120 dX7_layOut_93 (by decide) (fun c37 => ?_) (fun c37 => ?_)
                  · rw [if_pos c37] at hF
                    refine v_iinc (i := 2) (v := (l2 + 1)) dX7_layOut_120 rfl rfl (by decide) (nlT rfl) ?_
                    simp only [List.set_cons_zero, List.set_cons_succ]
                    refine v_goto 2 dX7_layOut_123 (by decide) ?_
                    refine V.weak (la2 := [some (.ref 2), some (.int l1), some (.int (l2 + 1)), none, none]) (by simp [wk]) ?_
                    exact (s_X7_layOut_IH_2) _ _ _ _ hF hG
                  · rw [if_neg c37] at hF
                    refine v_aload_n (i := 0) dX7_layOut_96 rfl rfl ?_
                    refine g_X7_21 (q := 10) rfl sh_2 (by exact ltG hG (by decide)) (by exact rG hG r0_2_1) dX7_layOut_97 ?_
                    refine v_aload_n (i := 0) dX7_layOut_100 rfl rfl ?_
                    refine v_iload_n (i := 2) dX7_layOut_101 rfl rfl ?_
                    obtain ⟨q38, q38_e, hF⟩ := Option.bind_eq_some_iff.mp hF
                    refine c_X7_198 rfl sh_2 (by exact ltG hG (by decide)) (Nat.le_of_ble_eq_true rfl) dX7_layOut_102 (s_X7_cellOf _ q38_e hG) (fun r1 h1 hq => ?_)
                    obtain ⟨rfl, hq, hG⟩ := hq
                    replace hq := hq.symm
                    subst hq
                    show V _ _ _ _ (_ :: _) _ _
                    refine v_aload_n (i := 0) dX7_layOut_105 rfl rfl ?_
                    refine g_X7_49 (q := 16) rfl sh_2 (by exact ltG hG (by decide)) (by exact rG hG r0_2_10) dX7_layOut_106 ?_
                    refine v_iload_n (i := 2) dX7_layOut_109 rfl rfl ?_
                    obtain ⟨k40, hF⟩ := ck_some hF
                    refine v_iaload sh_16 (by exact ltG hG (by decide)) (ixO k40) dX7_layOut_110 ?_
                    refine v_aload_n (i := 0) dX7_layOut_111 rfl rfl ?_
                    refine g_X7_52 (q := 17) rfl sh_2 (by exact ltG hG (by decide)) (by exact rG hG r0_2_11) dX7_layOut_112 ?_
                    refine v_iload_n (i := 2) dX7_layOut_115 rfl rfl ?_
                    obtain ⟨k41, hF⟩ := ck_some hF
                    refine v_iaload sh_17 (by exact ltG hG (by decide)) (ixO k41) dX7_layOut_116 ?_
                    obtain ⟨q42, q42_e, hF⟩ := Option.bind_eq_some_iff.mp hF
                    refine c_X7_201 rfl sh_10 (by exact ltG hG (by decide)) (Nat.le_of_ble_eq_true rfl) dX7_layOut_117 (s_X8_soundIn _ q42_e hG (by first | assumption | exact sc_30 | exact sc_34 | exact sc_10 | exact fd_24 | exact fd_4 | exact lw_25 | exact lw_5 | exact bd_23 | exact bd_3 | exact ⟨by first | assumption | rfl, by first | decide | omega⟩)) (fun r1 h1 hq => ?_)
                    obtain ⟨rfl, hq, hG⟩ := hq
                    replace hq := hq.symm
                    subst hq
                    simp only [Option.toList, List.nil_append]
                    refine v_iinc (i := 2) (v := (l2 + 1)) dX7_layOut_120 rfl rfl (by decide) (nlT rfl) ?_
                    simp only [List.set_cons_zero, List.set_cons_succ]
                    refine v_goto 2 dX7_layOut_123 (by decide) ?_
                    refine V.weak (la2 := [some (.ref 2), some (.int l1), some (.int (l2 + 1)), none, none]) (by simp [wk]) ?_
                    exact (s_X7_layOut_IH_2) _ _ _ _ hF hG
                · rw [if_neg c36] at hF
                  refine v_aload_n (i := 0) dX7_layOut_72 rfl rfl ?_
                  refine g_X7_21 (q := 10) rfl sh_2 (by exact ltG hG (by decide)) (by exact rG hG r0_2_1) dX7_layOut_73 ?_
                  refine v_dup dX7_layOut_76 rfl ?_
                  refine g_X7_195 rfl sh_10 (by exact ltG hG (by decide)) dX7_layOut_77 ?_
                  refine v_iconst (v := 1) dX7_layOut_80 (by decide) ?_
                  refine v_aload_n (i := 0) dX7_layOut_81 rfl rfl ?_
                  refine v_iload_n (i := 2) dX7_layOut_82 rfl rfl ?_
                  obtain ⟨q44, q44_e, hF⟩ := Option.bind_eq_some_iff.mp hF
                  refine c_X7_198 rfl sh_2 (by exact ltG hG (by decide)) (Nat.le_of_ble_eq_true rfl) dX7_layOut_83 (s_X7_cellOf _ q44_e hG) (fun r1 h1 hq => ?_)
                  obtain ⟨rfl, hq, hG⟩ := hq
                  replace hq := hq.symm
                  subst hq
                  show V _ _ _ _ (_ :: _) _ _
                  refine v_ishl dX7_layOut_86 ?_
                  refine v_ior dX7_layOut_87 ?_
                  refine p_X7_195 rfl sh_10 (by exact ltG hG (by decide)) dX7_layOut_88 ?_
                  refine v_iload (i := 4) dX7_layOut_91 rfl ?_
                  refine v_if_eq 120 dX7_layOut_93 (by decide) (fun c46 => ?_) (fun c46 => ?_)
                  · rw [if_pos c46] at hF
                    refine v_iinc (i := 2) (v := (l2 + 1)) dX7_layOut_120 rfl rfl (by decide) (nlT rfl) ?_
                    simp only [List.set_cons_zero, List.set_cons_succ]
                    refine v_goto 2 dX7_layOut_123 (by decide) ?_
                    refine V.weak (la2 := [some (.ref 2), some (.int l1), some (.int (l2 + 1)), none, none]) (by simp [wk]) ?_
                    exact (s_X7_layOut_IH_2) _ _ _ _ hF hG
                  · rw [if_neg c46] at hF
                    refine v_aload_n (i := 0) dX7_layOut_96 rfl rfl ?_
                    refine g_X7_21 (q := 10) rfl sh_2 (by exact ltG hG (by decide)) (by exact rG hG r0_2_1) dX7_layOut_97 ?_
                    refine v_aload_n (i := 0) dX7_layOut_100 rfl rfl ?_
                    refine v_iload_n (i := 2) dX7_layOut_101 rfl rfl ?_
                    obtain ⟨q47, q47_e, hF⟩ := Option.bind_eq_some_iff.mp hF
                    refine c_X7_198 rfl sh_2 (by exact ltG hG (by decide)) (Nat.le_of_ble_eq_true rfl) dX7_layOut_102 (s_X7_cellOf _ q47_e hG) (fun r1 h1 hq => ?_)
                    obtain ⟨rfl, hq, hG⟩ := hq
                    replace hq := hq.symm
                    subst hq
                    show V _ _ _ _ (_ :: _) _ _
                    refine v_aload_n (i := 0) dX7_layOut_105 rfl rfl ?_
                    refine g_X7_49 (q := 16) rfl sh_2 (by exact ltG hG (by decide)) (by exact rG hG r0_2_10) dX7_layOut_106 ?_
                    refine v_iload_n (i := 2) dX7_layOut_109 rfl rfl ?_
                    obtain ⟨k49, hF⟩ := ck_some hF
                    refine v_iaload sh_16 (by exact ltG hG (by decide)) (ixO k49) dX7_layOut_110 ?_
                    refine v_aload_n (i := 0) dX7_layOut_111 rfl rfl ?_
                    refine g_X7_52 (q := 17) rfl sh_2 (by exact ltG hG (by decide)) (by exact rG hG r0_2_11) dX7_layOut_112 ?_
                    refine v_iload_n (i := 2) dX7_layOut_115 rfl rfl ?_
                    obtain ⟨k50, hF⟩ := ck_some hF
                    refine v_iaload sh_17 (by exact ltG hG (by decide)) (ixO k50) dX7_layOut_116 ?_
                    obtain ⟨q51, q51_e, hF⟩ := Option.bind_eq_some_iff.mp hF
                    refine c_X7_201 rfl sh_10 (by exact ltG hG (by decide)) (Nat.le_of_ble_eq_true rfl) dX7_layOut_117 (s_X8_soundIn _ q51_e hG (by first | assumption | exact sc_30 | exact sc_34 | exact sc_10 | exact fd_24 | exact fd_4 | exact lw_25 | exact lw_5 | exact bd_23 | exact bd_3 | exact ⟨by first | assumption | rfl, by first | decide | omega⟩)) (fun r1 h1 hq => ?_)
                    obtain ⟨rfl, hq, hG⟩ := hq
                    replace hq := hq.symm
                    subst hq
                    simp only [Option.toList, List.nil_append]
                    refine v_iinc (i := 2) (v := (l2 + 1)) dX7_layOut_120 rfl rfl (by decide) (nlT rfl) ?_
                    simp only [List.set_cons_zero, List.set_cons_succ]
                    refine v_goto 2 dX7_layOut_123 (by decide) ?_
                    refine V.weak (la2 := [some (.ref 2), some (.int l1), some (.int (l2 + 1)), none, none]) (by simp [wk]) ?_
                    exact (s_X7_layOut_IH_2) _ _ _ _ hF hG
              · rw [if_neg c35] at hF
                refine v_aload_n (i := 0) dX7_layOut_50 rfl rfl ?_
                refine v_iload_n (i := 2) dX7_layOut_51 rfl rfl ?_
                obtain ⟨q53, q53_e, hF⟩ := Option.bind_eq_some_iff.mp hF
                refine c_X7_192 rfl sh_2 (by exact ltG hG (by decide)) (Nat.le_of_ble_eq_true rfl) dX7_layOut_52 (s_X7_onLawn _ q53_e hG) (fun r1 h1 hq => ?_)
                obtain ⟨rfl, hq, hG⟩ := hq
                replace hq := hq.symm
                subst hq
                show V _ _ _ _ (_ :: _) _ _
                refine v_if_ne 68 dX7_layOut_55 (by decide) (fun c55 => ?_) (fun c55 => ?_)
                · rw [if_neg c55] at hF
                  refine v_iload_n (i := 3) dX7_layOut_68 rfl rfl ?_
                  refine v_if_eq 91 dX7_layOut_69 (by decide) (fun c56 => ?_) (fun c56 => ?_)
                  · rw [if_pos c56] at hF
                    refine v_iload (i := 4) dX7_layOut_91 rfl ?_
                    refine v_if_eq 120 dX7_layOut_93 (by decide) (fun c57 => ?_) (fun c57 => ?_)
                    · rw [if_pos c57] at hF
                      refine v_iinc (i := 2) (v := (l2 + 1)) dX7_layOut_120 rfl rfl (by decide) (nlT rfl) ?_
                      simp only [List.set_cons_zero, List.set_cons_succ]
                      refine v_goto 2 dX7_layOut_123 (by decide) ?_
                      refine V.weak (la2 := [some (.ref 2), some (.int l1), some (.int (l2 + 1)), none, none]) (by simp [wk]) ?_
                      exact (s_X7_layOut_IH_2) _ _ _ _ hF hG
                    · rw [if_neg c57] at hF
                      refine v_aload_n (i := 0) dX7_layOut_96 rfl rfl ?_
                      refine g_X7_21 (q := 10) rfl sh_2 (by exact ltG hG (by decide)) (by exact rG hG r0_2_1) dX7_layOut_97 ?_
                      refine v_aload_n (i := 0) dX7_layOut_100 rfl rfl ?_
                      refine v_iload_n (i := 2) dX7_layOut_101 rfl rfl ?_
                      obtain ⟨q58, q58_e, hF⟩ := Option.bind_eq_some_iff.mp hF
                      refine c_X7_198 rfl sh_2 (by exact ltG hG (by decide)) (Nat.le_of_ble_eq_true rfl) dX7_layOut_102 (s_X7_cellOf _ q58_e hG) (fun r1 h1 hq => ?_)
                      obtain ⟨rfl, hq, hG⟩ := hq
                      replace hq := hq.symm
                      subst hq
                      show V _ _ _ _ (_ :: _) _ _
                      refine v_aload_n (i := 0) dX7_layOut_105 rfl rfl ?_
                      refine g_X7_49 (q := 16) rfl sh_2 (by exact ltG hG (by decide)) (by exact rG hG r0_2_10) dX7_layOut_106 ?_
                      refine v_iload_n (i := 2) dX7_layOut_109 rfl rfl ?_
                      obtain ⟨k60, hF⟩ := ck_some hF
                      refine v_iaload sh_16 (by exact ltG hG (by decide)) (ixO k60) dX7_layOut_110 ?_
                      refine v_aload_n (i := 0) dX7_layOut_111 rfl rfl ?_
                      refine g_X7_52 (q := 17) rfl sh_2 (by exact ltG hG (by decide)) (by exact rG hG r0_2_11) dX7_layOut_112 ?_
                      refine v_iload_n (i := 2) dX7_layOut_115 rfl rfl ?_
                      obtain ⟨k61, hF⟩ := ck_some hF
                      refine v_iaload sh_17 (by exact ltG hG (by decide)) (ixO k61) dX7_layOut_116 ?_
                      obtain ⟨q62, q62_e, hF⟩ := Option.bind_eq_some_iff.mp hF
                      refine c_X7_201 rfl sh_10 (by exact ltG hG (by decide)) (Nat.le_of_ble_eq_true rfl) dX7_layOut_117 (s_X8_soundIn _ q62_e hG (by first | assumption | exact sc_30 | exact sc_34 | exact sc_10 | exact fd_24 | exact fd_4 | exact lw_25 | exact lw_5 | exact bd_23 | exact bd_3 | exact ⟨by first | assumption | rfl, by first | decide | omega⟩)) (fun r1 h1 hq => ?_)
                      obtain ⟨rfl, hq, hG⟩ := hq
                      replace hq := hq.symm
                      subst hq
                      simp only [Option.toList, List.nil_append]
                      refine v_iinc (i := 2) (v := (l2 + 1)) dX7_layOut_120 rfl rfl (by decide) (nlT rfl) ?_
                      simp only [List.set_cons_zero, List.set_cons_succ]
                      refine v_goto 2 dX7_layOut_123 (by decide) ?_
                      refine V.weak (la2 := [some (.ref 2), some (.int l1), some (.int (l2 + 1)), none, none]) (by simp [wk]) ?_
                      exact (s_X7_layOut_IH_2) _ _ _ _ hF hG
                  · rw [if_neg c56] at hF
                    refine v_aload_n (i := 0) dX7_layOut_72 rfl rfl ?_
                    refine g_X7_21 (q := 10) rfl sh_2 (by exact ltG hG (by decide)) (by exact rG hG r0_2_1) dX7_layOut_73 ?_
                    refine v_dup dX7_layOut_76 rfl ?_
                    refine g_X7_195 rfl sh_10 (by exact ltG hG (by decide)) dX7_layOut_77 ?_
                    refine v_iconst (v := 1) dX7_layOut_80 (by decide) ?_
                    refine v_aload_n (i := 0) dX7_layOut_81 rfl rfl ?_
                    refine v_iload_n (i := 2) dX7_layOut_82 rfl rfl ?_
                    obtain ⟨q64, q64_e, hF⟩ := Option.bind_eq_some_iff.mp hF
                    refine c_X7_198 rfl sh_2 (by exact ltG hG (by decide)) (Nat.le_of_ble_eq_true rfl) dX7_layOut_83 (s_X7_cellOf _ q64_e hG) (fun r1 h1 hq => ?_)
                    obtain ⟨rfl, hq, hG⟩ := hq
                    replace hq := hq.symm
                    subst hq
                    show V _ _ _ _ (_ :: _) _ _
                    refine v_ishl dX7_layOut_86 ?_
                    refine v_ior dX7_layOut_87 ?_
                    refine p_X7_195 rfl sh_10 (by exact ltG hG (by decide)) dX7_layOut_88 ?_
                    refine v_iload (i := 4) dX7_layOut_91 rfl ?_
                    refine v_if_eq 120 dX7_layOut_93 (by decide) (fun c66 => ?_) (fun c66 => ?_)
                    · rw [if_pos c66] at hF
                      refine v_iinc (i := 2) (v := (l2 + 1)) dX7_layOut_120 rfl rfl (by decide) (nlT rfl) ?_
                      simp only [List.set_cons_zero, List.set_cons_succ]
                      refine v_goto 2 dX7_layOut_123 (by decide) ?_
                      refine V.weak (la2 := [some (.ref 2), some (.int l1), some (.int (l2 + 1)), none, none]) (by simp [wk]) ?_
                      exact (s_X7_layOut_IH_2) _ _ _ _ hF hG
                    · rw [if_neg c66] at hF
                      refine v_aload_n (i := 0) dX7_layOut_96 rfl rfl ?_
                      refine g_X7_21 (q := 10) rfl sh_2 (by exact ltG hG (by decide)) (by exact rG hG r0_2_1) dX7_layOut_97 ?_
                      refine v_aload_n (i := 0) dX7_layOut_100 rfl rfl ?_
                      refine v_iload_n (i := 2) dX7_layOut_101 rfl rfl ?_
                      obtain ⟨q67, q67_e, hF⟩ := Option.bind_eq_some_iff.mp hF
                      refine c_X7_198 rfl sh_2 (by exact ltG hG (by decide)) (Nat.le_of_ble_eq_true rfl) dX7_layOut_102 (s_X7_cellOf _ q67_e hG) (fun r1 h1 hq => ?_)
                      obtain ⟨rfl, hq, hG⟩ := hq
                      replace hq := hq.symm
                      subst hq
                      show V _ _ _ _ (_ :: _) _ _
                      refine v_aload_n (i := 0) dX7_layOut_105 rfl rfl ?_
                      refine g_X7_49 (q := 16) rfl sh_2 (by exact ltG hG (by decide)) (by exact rG hG r0_2_10) dX7_layOut_106 ?_
                      refine v_iload_n (i := 2) dX7_layOut_109 rfl rfl ?_
                      obtain ⟨k69, hF⟩ := ck_some hF
                      refine v_iaload sh_16 (by exact ltG hG (by decide)) (ixO k69) dX7_layOut_110 ?_
                      refine v_aload_n (i := 0) dX7_layOut_111 rfl rfl ?_
                      refine g_X7_52 (q := 17) rfl sh_2 (by exact ltG hG (by decide)) (by exact rG hG r0_2_11) dX7_layOut_112 ?_
                      refine v_iload_n (i := 2) dX7_layOut_115 rfl rfl ?_
                      obtain ⟨k70, hF⟩ := ck_some hF
                      refine v_iaload sh_17 (by exact ltG hG (by decide)) (ixO k70) dX7_layOut_116 ?_
                      obtain ⟨q71, q71_e, hF⟩ := Option.bind_eq_some_iff.mp hF
                      refine c_X7_201 rfl sh_10 (by exact ltG hG (by decide)) (Nat.le_of_ble_eq_true rfl) dX7_layOut_117 (s_X8_soundIn _ q71_e hG (by first | assumption | exact sc_30 | exact sc_34 | exact sc_10 | exact fd_24 | exact fd_4 | exact lw_25 | exact lw_5 | exact bd_23 | exact bd_3 | exact ⟨by first | assumption | rfl, by first | decide | omega⟩)) (fun r1 h1 hq => ?_)
                      obtain ⟨rfl, hq, hG⟩ := hq
                      replace hq := hq.symm
                      subst hq
                      simp only [Option.toList, List.nil_append]
                      refine v_iinc (i := 2) (v := (l2 + 1)) dX7_layOut_120 rfl rfl (by decide) (nlT rfl) ?_
                      simp only [List.set_cons_zero, List.set_cons_succ]
                      refine v_goto 2 dX7_layOut_123 (by decide) ?_
                      refine V.weak (la2 := [some (.ref 2), some (.int l1), some (.int (l2 + 1)), none, none]) (by simp [wk]) ?_
                      exact (s_X7_layOut_IH_2) _ _ _ _ hF hG
                · rw [if_pos c55] at hF
                  refine v_aload_n (i := 0) dX7_layOut_58 rfl rfl ?_
                  refine v_bipush (v := 6) dX7_layOut_59 (by decide) ?_
                  refine v_iload_n (i := 1) dX7_layOut_61 rfl rfl ?_
                  obtain ⟨q73, q73_e, hF⟩ := Option.bind_eq_some_iff.mp hF
                  refine c_X7_141 rfl sh_2 (by exact ltG hG (by decide)) (Nat.le_of_ble_eq_true rfl) dX7_layOut_62 (s_X7_blame _ q73_e hG) (fun r1 h1 hq => ?_)
                  obtain ⟨rfl, hq, hG⟩ := hq
                  replace hq := hq.symm
                  subst hq
                  simp only [Option.toList, List.nil_append]
                  refine v_goto 91 dX7_layOut_65 (by decide) ?_
                  refine v_iload (i := 4) dX7_layOut_91 rfl ?_
                  refine v_if_eq 120 dX7_layOut_93 (by decide) (fun c75 => ?_) (fun c75 => ?_)
                  · rw [if_pos c75] at hF
                    refine v_iinc (i := 2) (v := (l2 + 1)) dX7_layOut_120 rfl rfl (by decide) (nlT rfl) ?_
                    simp only [List.set_cons_zero, List.set_cons_succ]
                    refine v_goto 2 dX7_layOut_123 (by decide) ?_
                    refine V.weak (la2 := [some (.ref 2), some (.int l1), some (.int (l2 + 1)), none, none]) (by simp [wk]) ?_
                    exact (s_X7_layOut_IH_2) _ _ _ _ hF hG
                  · rw [if_neg c75] at hF
                    refine v_aload_n (i := 0) dX7_layOut_96 rfl rfl ?_
                    refine g_X7_21 (q := 10) rfl sh_2 (by exact ltG hG (by decide)) (by exact rG hG r0_2_1) dX7_layOut_97 ?_
                    refine v_aload_n (i := 0) dX7_layOut_100 rfl rfl ?_
                    refine v_iload_n (i := 2) dX7_layOut_101 rfl rfl ?_
                    obtain ⟨q76, q76_e, hF⟩ := Option.bind_eq_some_iff.mp hF
                    refine c_X7_198 rfl sh_2 (by exact ltG hG (by decide)) (Nat.le_of_ble_eq_true rfl) dX7_layOut_102 (s_X7_cellOf _ q76_e hG) (fun r1 h1 hq => ?_)
                    obtain ⟨rfl, hq, hG⟩ := hq
                    replace hq := hq.symm
                    subst hq
                    show V _ _ _ _ (_ :: _) _ _
                    refine v_aload_n (i := 0) dX7_layOut_105 rfl rfl ?_
                    refine g_X7_49 (q := 16) rfl sh_2 (by exact ltG hG (by decide)) (by exact rG hG r0_2_10) dX7_layOut_106 ?_
                    refine v_iload_n (i := 2) dX7_layOut_109 rfl rfl ?_
                    obtain ⟨k78, hF⟩ := ck_some hF
                    refine v_iaload sh_16 (by exact ltG hG (by decide)) (ixO k78) dX7_layOut_110 ?_
                    refine v_aload_n (i := 0) dX7_layOut_111 rfl rfl ?_
                    refine g_X7_52 (q := 17) rfl sh_2 (by exact ltG hG (by decide)) (by exact rG hG r0_2_11) dX7_layOut_112 ?_
                    refine v_iload_n (i := 2) dX7_layOut_115 rfl rfl ?_
                    obtain ⟨k79, hF⟩ := ck_some hF
                    refine v_iaload sh_17 (by exact ltG hG (by decide)) (ixO k79) dX7_layOut_116 ?_
                    obtain ⟨q80, q80_e, hF⟩ := Option.bind_eq_some_iff.mp hF
                    refine c_X7_201 rfl sh_10 (by exact ltG hG (by decide)) (Nat.le_of_ble_eq_true rfl) dX7_layOut_117 (s_X8_soundIn _ q80_e hG (by first | assumption | exact sc_30 | exact sc_34 | exact sc_10 | exact fd_24 | exact fd_4 | exact lw_25 | exact lw_5 | exact bd_23 | exact bd_3 | exact ⟨by first | assumption | rfl, by first | decide | omega⟩)) (fun r1 h1 hq => ?_)
                    obtain ⟨rfl, hq, hG⟩ := hq
                    replace hq := hq.symm
                    subst hq
                    simp only [Option.toList, List.nil_append]
                    refine v_iinc (i := 2) (v := (l2 + 1)) dX7_layOut_120 rfl rfl (by decide) (nlT rfl) ?_
                    simp only [List.set_cons_zero, List.set_cons_succ]
                    refine v_goto 2 dX7_layOut_123 (by decide) ?_
                    refine V.weak (la2 := [some (.ref 2), some (.int l1), some (.int (l2 + 1)), none, none]) (by simp [wk]) ?_
                    exact (s_X7_layOut_IH_2) _ _ _ _ hF hG
          · rw [if_neg c4] at hF
            refine v_iconst (v := 1) dX7_layOut_34 (by decide) ?_
            refine v_goto 39 dX7_layOut_35 (by decide) ?_
            refine v_istore (i := 4) dX7_layOut_39 (by decide) (nlT rfl) ?_
            simp only [List.set_cons_zero, List.set_cons_succ]
            refine v_iload_n (i := 3) dX7_layOut_41 rfl rfl ?_
            refine v_if_ne 50 dX7_layOut_42 (by decide) (fun c82 => ?_) (fun c82 => ?_)
            · rw [if_neg c82] at hF
              refine v_aload_n (i := 0) dX7_layOut_50 rfl rfl ?_
              refine v_iload_n (i := 2) dX7_layOut_51 rfl rfl ?_
              obtain ⟨q83, q83_e, hF⟩ := Option.bind_eq_some_iff.mp hF
              refine c_X7_192 rfl sh_2 (by exact ltG hG (by decide)) (Nat.le_of_ble_eq_true rfl) dX7_layOut_52 (s_X7_onLawn _ q83_e hG) (fun r1 h1 hq => ?_)
              obtain ⟨rfl, hq, hG⟩ := hq
              replace hq := hq.symm
              subst hq
              show V _ _ _ _ (_ :: _) _ _
              refine v_if_ne 68 dX7_layOut_55 (by decide) (fun c85 => ?_) (fun c85 => ?_)
              · rw [if_neg c85] at hF
                refine v_iload_n (i := 3) dX7_layOut_68 rfl rfl ?_
                refine v_if_eq 91 dX7_layOut_69 (by decide) (fun c86 => ?_) (fun c86 => ?_)
                · rw [if_pos c86] at hF
                  refine v_iload (i := 4) dX7_layOut_91 rfl ?_
                  refine v_if_eq 120 dX7_layOut_93 (by decide) (fun c87 => ?_) (fun c87 => ?_)
                  · rw [if_pos c87] at hF
                    refine v_iinc (i := 2) (v := (l2 + 1)) dX7_layOut_120 rfl rfl (by decide) (nlT rfl) ?_
                    simp only [List.set_cons_zero, List.set_cons_succ]
                    refine v_goto 2 dX7_layOut_123 (by decide) ?_
                    refine V.weak (la2 := [some (.ref 2), some (.int l1), some (.int (l2 + 1)), none, none]) (by simp [wk]) ?_
                    exact (s_X7_layOut_IH_2) _ _ _ _ hF hG
                  · rw [if_neg c87] at hF
                    refine v_aload_n (i := 0) dX7_layOut_96 rfl rfl ?_
                    refine g_X7_21 (q := 10) rfl sh_2 (by exact ltG hG (by decide)) (by exact rG hG r0_2_1) dX7_layOut_97 ?_
                    refine v_aload_n (i := 0) dX7_layOut_100 rfl rfl ?_
                    refine v_iload_n (i := 2) dX7_layOut_101 rfl rfl ?_
                    obtain ⟨q88, q88_e, hF⟩ := Option.bind_eq_some_iff.mp hF
                    refine c_X7_198 rfl sh_2 (by exact ltG hG (by decide)) (Nat.le_of_ble_eq_true rfl) dX7_layOut_102 (s_X7_cellOf _ q88_e hG) (fun r1 h1 hq => ?_)
                    obtain ⟨rfl, hq, hG⟩ := hq
                    replace hq := hq.symm
                    subst hq
                    show V _ _ _ _ (_ :: _) _ _
                    refine v_aload_n (i := 0) dX7_layOut_105 rfl rfl ?_
                    refine g_X7_49 (q := 16) rfl sh_2 (by exact ltG hG (by decide)) (by exact rG hG r0_2_10) dX7_layOut_106 ?_
                    refine v_iload_n (i := 2) dX7_layOut_109 rfl rfl ?_
                    obtain ⟨k90, hF⟩ := ck_some hF
                    refine v_iaload sh_16 (by exact ltG hG (by decide)) (ixO k90) dX7_layOut_110 ?_
                    refine v_aload_n (i := 0) dX7_layOut_111 rfl rfl ?_
                    refine g_X7_52 (q := 17) rfl sh_2 (by exact ltG hG (by decide)) (by exact rG hG r0_2_11) dX7_layOut_112 ?_
                    refine v_iload_n (i := 2) dX7_layOut_115 rfl rfl ?_
                    obtain ⟨k91, hF⟩ := ck_some hF
                    refine v_iaload sh_17 (by exact ltG hG (by decide)) (ixO k91) dX7_layOut_116 ?_
                    obtain ⟨q92, q92_e, hF⟩ := Option.bind_eq_some_iff.mp hF
                    refine c_X7_201 rfl sh_10 (by exact ltG hG (by decide)) (Nat.le_of_ble_eq_true rfl) dX7_layOut_117 (s_X8_soundIn _ q92_e hG (by first | assumption | exact sc_30 | exact sc_34 | exact sc_10 | exact fd_24 | exact fd_4 | exact lw_25 | exact lw_5 | exact bd_23 | exact bd_3 | exact ⟨by first | assumption | rfl, by first | decide | omega⟩)) (fun r1 h1 hq => ?_)
                    obtain ⟨rfl, hq, hG⟩ := hq
                    replace hq := hq.symm
                    subst hq
                    simp only [Option.toList, List.nil_append]
                    refine v_iinc (i := 2) (v := (l2 + 1)) dX7_layOut_120 rfl rfl (by decide) (nlT rfl) ?_
                    simp only [List.set_cons_zero, List.set_cons_succ]
                    refine v_goto 2 dX7_layOut_123 (by decide) ?_
                    refine V.weak (la2 := [some (.ref 2), some (.int l1), some (.int (l2 + 1)), none, none]) (by simp [wk]) ?_
                    exact (s_X7_layOut_IH_2) _ _ _ _ hF hG
                · rw [if_neg c86] at hF
                  refine v_aload_n (i := 0) dX7_layOut_72 rfl rfl ?_
                  refine g_X7_21 (q := 10) rfl sh_2 (by exact ltG hG (by decide)) (by exact rG hG r0_2_1) dX7_layOut_73 ?_
                  refine v_dup dX7_layOut_76 rfl ?_
                  refine g_X7_195 rfl sh_10 (by exact ltG hG (by decide)) dX7_layOut_77 ?_
                  refine v_iconst (v := 1) dX7_layOut_80 (by decide) ?_
                  refine v_aload_n (i := 0) dX7_layOut_81 rfl rfl ?_
                  refine v_iload_n (i := 2) dX7_layOut_82 rfl rfl ?_
                  obtain ⟨q94, q94_e, hF⟩ := Option.bind_eq_some_iff.mp hF
                  refine c_X7_198 rfl sh_2 (by exact ltG hG (by decide)) (Nat.le_of_ble_eq_true rfl) dX7_layOut_83 (s_X7_cellOf _ q94_e hG) (fun r1 h1 hq => ?_)
                  obtain ⟨rfl, hq, hG⟩ := hq
                  replace hq := hq.symm
                  subst hq
                  show V _ _ _ _ (_ :: _) _ _
                  refine v_ishl dX7_layOut_86 ?_
                  refine v_ior dX7_layOut_87 ?_
                  refine p_X7_195 rfl sh_10 (by exact ltG hG (by decide)) dX7_layOut_88 ?_
                  refine v_iload (i := 4) dX7_layOut_91 rfl ?_
                  refine v_if_eq 120 dX7_layOut_93 (by decide) (fun c96 => ?_) (fun c96 => ?_)
                  · rw [if_pos c96] at hF
                    refine v_iinc (i := 2) (v := (l2 + 1)) dX7_layOut_120 rfl rfl (by decide) (nlT rfl) ?_
                    simp only [List.set_cons_zero, List.set_cons_succ]
                    refine v_goto 2 dX7_layOut_123 (by decide) ?_
                    refine V.weak (la2 := [some (.ref 2), some (.int l1), some (.int (l2 + 1)), none, none]) (by simp [wk]) ?_
                    exact (s_X7_layOut_IH_2) _ _ _ _ hF hG
                  · rw [if_neg c96] at hF
                    refine v_aload_n (i := 0) dX7_layOut_96 rfl rfl ?_
                    refine g_X7_21 (q := 10) rfl sh_2 (by exact ltG hG (by decide)) (by exact rG hG r0_2_1) dX7_layOut_97 ?_
                    refine v_aload_n (i := 0) dX7_layOut_100 rfl rfl ?_
                    refine v_iload_n (i := 2) dX7_layOut_101 rfl rfl ?_
                    obtain ⟨q97, q97_e, hF⟩ := Option.bind_eq_some_iff.mp hF
                    refine c_X7_198 rfl sh_2 (by exact ltG hG (by decide)) (Nat.le_of_ble_eq_true rfl) dX7_layOut_102 (s_X7_cellOf _ q97_e hG) (fun r1 h1 hq => ?_)
                    obtain ⟨rfl, hq, hG⟩ := hq
                    replace hq := hq.symm
                    subst hq
                    show V _ _ _ _ (_ :: _) _ _
                    refine v_aload_n (i := 0) dX7_layOut_105 rfl rfl ?_
                    refine g_X7_49 (q := 16) rfl sh_2 (by exact ltG hG (by decide)) (by exact rG hG r0_2_10) dX7_layOut_106 ?_
                    refine v_iload_n (i := 2) dX7_layOut_109 rfl rfl ?_
                    obtain ⟨k99, hF⟩ := ck_some hF
                    refine v_iaload sh_16 (by exact ltG hG (by decide)) (ixO k99) dX7_layOut_110 ?_
                    refine v_aload_n (i := 0) dX7_layOut_111 rfl rfl ?_
                    refine g_X7_52 (q := 17) rfl sh_2 (by exact ltG hG (by decide)) (by exact rG hG r0_2_11) dX7_layOut_112 ?_
                    refine v_iload_n (i := 2) dX7_layOut_115 rfl rfl ?_
                    obtain ⟨k100, hF⟩ := ck_some hF
                    refine v_iaload sh_17 (by exact ltG hG (by decide)) (ixO k100) dX7_layOut_116 ?_
                    obtain ⟨q101, q101_e, hF⟩ := Option.bind_eq_some_iff.mp hF
                    refine c_X7_201 rfl sh_10 (by exact ltG hG (by decide)) (Nat.le_of_ble_eq_true rfl) dX7_layOut_117 (s_X8_soundIn _ q101_e hG (by first | assumption | exact sc_30 | exact sc_34 | exact sc_10 | exact fd_24 | exact fd_4 | exact lw_25 | exact lw_5 | exact bd_23 | exact bd_3 | exact ⟨by first | assumption | rfl, by first | decide | omega⟩)) (fun r1 h1 hq => ?_)
                    obtain ⟨rfl, hq, hG⟩ := hq
                    replace hq := hq.symm
                    subst hq
                    simp only [Option.toList, List.nil_append]
                    refine v_iinc (i := 2) (v := (l2 + 1)) dX7_layOut_120 rfl rfl (by decide) (nlT rfl) ?_
                    simp only [List.set_cons_zero, List.set_cons_succ]
                    refine v_goto 2 dX7_layOut_123 (by decide) ?_
                    refine V.weak (la2 := [some (.ref 2), some (.int l1), some (.int (l2 + 1)), none, none]) (by simp [wk]) ?_
                    exact (s_X7_layOut_IH_2) _ _ _ _ hF hG
              · rw [if_pos c85] at hF
                refine v_aload_n (i := 0) dX7_layOut_58 rfl rfl ?_
                refine v_bipush (v := 6) dX7_layOut_59 (by decide) ?_
                refine v_iload_n (i := 1) dX7_layOut_61 rfl rfl ?_
                obtain ⟨q103, q103_e, hF⟩ := Option.bind_eq_some_iff.mp hF
                refine c_X7_141 rfl sh_2 (by exact ltG hG (by decide)) (Nat.le_of_ble_eq_true rfl) dX7_layOut_62 (s_X7_blame _ q103_e hG) (fun r1 h1 hq => ?_)
                obtain ⟨rfl, hq, hG⟩ := hq
                replace hq := hq.symm
                subst hq
                simp only [Option.toList, List.nil_append]
                refine v_goto 91 dX7_layOut_65 (by decide) ?_
                refine v_iload (i := 4) dX7_layOut_91 rfl ?_
                refine v_if_eq 120 dX7_layOut_93 (by decide) (fun c105 => ?_) (fun c105 => ?_)
                · rw [if_pos c105] at hF
                  refine v_iinc (i := 2) (v := (l2 + 1)) dX7_layOut_120 rfl rfl (by decide) (nlT rfl) ?_
                  simp only [List.set_cons_zero, List.set_cons_succ]
                  refine v_goto 2 dX7_layOut_123 (by decide) ?_
                  refine V.weak (la2 := [some (.ref 2), some (.int l1), some (.int (l2 + 1)), none, none]) (by simp [wk]) ?_
                  exact (s_X7_layOut_IH_2) _ _ _ _ hF hG
                · rw [if_neg c105] at hF
                  refine v_aload_n (i := 0) dX7_layOut_96 rfl rfl ?_
                  refine g_X7_21 (q := 10) rfl sh_2 (by exact ltG hG (by decide)) (by exact rG hG r0_2_1) dX7_layOut_97 ?_
                  refine v_aload_n (i := 0) dX7_layOut_100 rfl rfl ?_
                  refine v_iload_n (i := 2) dX7_layOut_101 rfl rfl ?_
                  obtain ⟨q106, q106_e, hF⟩ := Option.bind_eq_some_iff.mp hF
                  refine c_X7_198 rfl sh_2 (by exact ltG hG (by decide)) (Nat.le_of_ble_eq_true rfl) dX7_layOut_102 (s_X7_cellOf _ q106_e hG) (fun r1 h1 hq => ?_)
                  obtain ⟨rfl, hq, hG⟩ := hq
                  replace hq := hq.symm
                  subst hq
                  show V _ _ _ _ (_ :: _) _ _
                  refine v_aload_n (i := 0) dX7_layOut_105 rfl rfl ?_
                  refine g_X7_49 (q := 16) rfl sh_2 (by exact ltG hG (by decide)) (by exact rG hG r0_2_10) dX7_layOut_106 ?_
                  refine v_iload_n (i := 2) dX7_layOut_109 rfl rfl ?_
                  obtain ⟨k108, hF⟩ := ck_some hF
                  refine v_iaload sh_16 (by exact ltG hG (by decide)) (ixO k108) dX7_layOut_110 ?_
                  refine v_aload_n (i := 0) dX7_layOut_111 rfl rfl ?_
                  refine g_X7_52 (q := 17) rfl sh_2 (by exact ltG hG (by decide)) (by exact rG hG r0_2_11) dX7_layOut_112 ?_
                  refine v_iload_n (i := 2) dX7_layOut_115 rfl rfl ?_
                  obtain ⟨k109, hF⟩ := ck_some hF
                  refine v_iaload sh_17 (by exact ltG hG (by decide)) (ixO k109) dX7_layOut_116 ?_
                  obtain ⟨q110, q110_e, hF⟩ := Option.bind_eq_some_iff.mp hF
                  refine c_X7_201 rfl sh_10 (by exact ltG hG (by decide)) (Nat.le_of_ble_eq_true rfl) dX7_layOut_117 (s_X8_soundIn _ q110_e hG (by first | assumption | exact sc_30 | exact sc_34 | exact sc_10 | exact fd_24 | exact fd_4 | exact lw_25 | exact lw_5 | exact bd_23 | exact bd_3 | exact ⟨by first | assumption | rfl, by first | decide | omega⟩)) (fun r1 h1 hq => ?_)
                  obtain ⟨rfl, hq, hG⟩ := hq
                  replace hq := hq.symm
                  subst hq
                  simp only [Option.toList, List.nil_append]
                  refine v_iinc (i := 2) (v := (l2 + 1)) dX7_layOut_120 rfl rfl (by decide) (nlT rfl) ?_
                  simp only [List.set_cons_zero, List.set_cons_succ]
                  refine v_goto 2 dX7_layOut_123 (by decide) ?_
                  refine V.weak (la2 := [some (.ref 2), some (.int l1), some (.int (l2 + 1)), none, none]) (by simp [wk]) ?_
                  exact (s_X7_layOut_IH_2) _ _ _ _ hF hG
            · rw [if_pos c82] at hF
              refine v_iload (i := 4) dX7_layOut_45 rfl ?_
              refine v_if_eq 68 dX7_layOut_47 (by decide) (fun c112 => ?_) (fun c112 => ?_)
              · rw [if_pos c112] at hF
                refine v_iload_n (i := 3) dX7_layOut_68 rfl rfl ?_
                refine v_if_eq 91 dX7_layOut_69 (by decide) (fun c113 => ?_) (fun c113 => ?_)
                · rw [if_pos c113] at hF
                  refine v_iload (i := 4) dX7_layOut_91 rfl ?_
                  refine v_if_eq 120 dX7_layOut_93 (by decide) (fun c114 => ?_) (fun c114 => ?_)
                  · rw [if_pos c114] at hF
                    refine v_iinc (i := 2) (v := (l2 + 1)) dX7_layOut_120 rfl rfl (by decide) (nlT rfl) ?_
                    simp only [List.set_cons_zero, List.set_cons_succ]
                    refine v_goto 2 dX7_layOut_123 (by decide) ?_
                    refine V.weak (la2 := [some (.ref 2), some (.int l1), some (.int (l2 + 1)), none, none]) (by simp [wk]) ?_
                    exact (s_X7_layOut_IH_2) _ _ _ _ hF hG
                  · rw [if_neg c114] at hF
                    refine v_aload_n (i := 0) dX7_layOut_96 rfl rfl ?_
                    refine g_X7_21 (q := 10) rfl sh_2 (by exact ltG hG (by decide)) (by exact rG hG r0_2_1) dX7_layOut_97 ?_
                    refine v_aload_n (i := 0) dX7_layOut_100 rfl rfl ?_
                    refine v_iload_n (i := 2) dX7_layOut_101 rfl rfl ?_
                    obtain ⟨q115, q115_e, hF⟩ := Option.bind_eq_some_iff.mp hF
                    refine c_X7_198 rfl sh_2 (by exact ltG hG (by decide)) (Nat.le_of_ble_eq_true rfl) dX7_layOut_102 (s_X7_cellOf _ q115_e hG) (fun r1 h1 hq => ?_)
                    obtain ⟨rfl, hq, hG⟩ := hq
                    replace hq := hq.symm
                    subst hq
                    show V _ _ _ _ (_ :: _) _ _
                    refine v_aload_n (i := 0) dX7_layOut_105 rfl rfl ?_
                    refine g_X7_49 (q := 16) rfl sh_2 (by exact ltG hG (by decide)) (by exact rG hG r0_2_10) dX7_layOut_106 ?_
                    refine v_iload_n (i := 2) dX7_layOut_109 rfl rfl ?_
                    obtain ⟨k117, hF⟩ := ck_some hF
                    refine v_iaload sh_16 (by exact ltG hG (by decide)) (ixO k117) dX7_layOut_110 ?_
                    refine v_aload_n (i := 0) dX7_layOut_111 rfl rfl ?_
                    refine g_X7_52 (q := 17) rfl sh_2 (by exact ltG hG (by decide)) (by exact rG hG r0_2_11) dX7_layOut_112 ?_
                    refine v_iload_n (i := 2) dX7_layOut_115 rfl rfl ?_
                    obtain ⟨k118, hF⟩ := ck_some hF
                    refine v_iaload sh_17 (by exact ltG hG (by decide)) (ixO k118) dX7_layOut_116 ?_
                    obtain ⟨q119, q119_e, hF⟩ := Option.bind_eq_some_iff.mp hF
                    refine c_X7_201 rfl sh_10 (by exact ltG hG (by decide)) (Nat.le_of_ble_eq_true rfl) dX7_layOut_117 (s_X8_soundIn _ q119_e hG (by first | assumption | exact sc_30 | exact sc_34 | exact sc_10 | exact fd_24 | exact fd_4 | exact lw_25 | exact lw_5 | exact bd_23 | exact bd_3 | exact ⟨by first | assumption | rfl, by first | decide | omega⟩)) (fun r1 h1 hq => ?_)
                    obtain ⟨rfl, hq, hG⟩ := hq
                    replace hq := hq.symm
                    subst hq
                    simp only [Option.toList, List.nil_append]
                    refine v_iinc (i := 2) (v := (l2 + 1)) dX7_layOut_120 rfl rfl (by decide) (nlT rfl) ?_
                    simp only [List.set_cons_zero, List.set_cons_succ]
                    refine v_goto 2 dX7_layOut_123 (by decide) ?_
                    refine V.weak (la2 := [some (.ref 2), some (.int l1), some (.int (l2 + 1)), none, none]) (by simp [wk]) ?_
                    exact (s_X7_layOut_IH_2) _ _ _ _ hF hG
                · rw [if_neg c113] at hF
                  refine v_aload_n (i := 0) dX7_layOut_72 rfl rfl ?_
                  refine g_X7_21 (q := 10) rfl sh_2 (by exact ltG hG (by decide)) (by exact rG hG r0_2_1) dX7_layOut_73 ?_
                  refine v_dup dX7_layOut_76 rfl ?_
                  refine g_X7_195 rfl sh_10 (by exact ltG hG (by decide)) dX7_layOut_77 ?_
                  refine v_iconst (v := 1) dX7_layOut_80 (by decide) ?_
                  refine v_aload_n (i := 0) dX7_layOut_81 rfl rfl ?_
                  refine v_iload_n (i := 2) dX7_layOut_82 rfl rfl ?_
                  obtain ⟨q121, q121_e, hF⟩ := Option.bind_eq_some_iff.mp hF
                  refine c_X7_198 rfl sh_2 (by exact ltG hG (by decide)) (Nat.le_of_ble_eq_true rfl) dX7_layOut_83 (s_X7_cellOf _ q121_e hG) (fun r1 h1 hq => ?_)
                  obtain ⟨rfl, hq, hG⟩ := hq
                  replace hq := hq.symm
                  subst hq
                  show V _ _ _ _ (_ :: _) _ _
                  refine v_ishl dX7_layOut_86 ?_
                  refine v_ior dX7_layOut_87 ?_
                  refine p_X7_195 rfl sh_10 (by exact ltG hG (by decide)) dX7_layOut_88 ?_
                  refine v_iload (i := 4) dX7_layOut_91 rfl ?_
                  refine v_if_eq 120 dX7_layOut_93 (by decide) (fun c123 => ?_) (fun c123 => ?_)
                  · rw [if_pos c123] at hF
                    refine v_iinc (i := 2) (v := (l2 + 1)) dX7_layOut_120 rfl rfl (by decide) (nlT rfl) ?_
                    simp only [List.set_cons_zero, List.set_cons_succ]
                    refine v_goto 2 dX7_layOut_123 (by decide) ?_
                    refine V.weak (la2 := [some (.ref 2), some (.int l1), some (.int (l2 + 1)), none, none]) (by simp [wk]) ?_
                    exact (s_X7_layOut_IH_2) _ _ _ _ hF hG
                  · rw [if_neg c123] at hF
                    refine v_aload_n (i := 0) dX7_layOut_96 rfl rfl ?_
                    refine g_X7_21 (q := 10) rfl sh_2 (by exact ltG hG (by decide)) (by exact rG hG r0_2_1) dX7_layOut_97 ?_
                    refine v_aload_n (i := 0) dX7_layOut_100 rfl rfl ?_
                    refine v_iload_n (i := 2) dX7_layOut_101 rfl rfl ?_
                    obtain ⟨q124, q124_e, hF⟩ := Option.bind_eq_some_iff.mp hF
                    refine c_X7_198 rfl sh_2 (by exact ltG hG (by decide)) (Nat.le_of_ble_eq_true rfl) dX7_layOut_102 (s_X7_cellOf _ q124_e hG) (fun r1 h1 hq => ?_)
                    obtain ⟨rfl, hq, hG⟩ := hq
                    replace hq := hq.symm
                    subst hq
                    show V _ _ _ _ (_ :: _) _ _
                    refine v_aload_n (i := 0) dX7_layOut_105 rfl rfl ?_
                    refine g_X7_49 (q := 16) rfl sh_2 (by exact ltG hG (by decide)) (by exact rG hG r0_2_10) dX7_layOut_106 ?_
                    refine v_iload_n (i := 2) dX7_layOut_109 rfl rfl ?_
                    obtain ⟨k126, hF⟩ := ck_some hF
                    refine v_iaload sh_16 (by exact ltG hG (by decide)) (ixO k126) dX7_layOut_110 ?_
                    refine v_aload_n (i := 0) dX7_layOut_111 rfl rfl ?_
                    refine g_X7_52 (q := 17) rfl sh_2 (by exact ltG hG (by decide)) (by exact rG hG r0_2_11) dX7_layOut_112 ?_
                    refine v_iload_n (i := 2) dX7_layOut_115 rfl rfl ?_
                    obtain ⟨k127, hF⟩ := ck_some hF
                    refine v_iaload sh_17 (by exact ltG hG (by decide)) (ixO k127) dX7_layOut_116 ?_
                    obtain ⟨q128, q128_e, hF⟩ := Option.bind_eq_some_iff.mp hF
                    refine c_X7_201 rfl sh_10 (by exact ltG hG (by decide)) (Nat.le_of_ble_eq_true rfl) dX7_layOut_117 (s_X8_soundIn _ q128_e hG (by first | assumption | exact sc_30 | exact sc_34 | exact sc_10 | exact fd_24 | exact fd_4 | exact lw_25 | exact lw_5 | exact bd_23 | exact bd_3 | exact ⟨by first | assumption | rfl, by first | decide | omega⟩)) (fun r1 h1 hq => ?_)
                    obtain ⟨rfl, hq, hG⟩ := hq
                    replace hq := hq.symm
                    subst hq
                    simp only [Option.toList, List.nil_append]
                    refine v_iinc (i := 2) (v := (l2 + 1)) dX7_layOut_120 rfl rfl (by decide) (nlT rfl) ?_
                    simp only [List.set_cons_zero, List.set_cons_succ]
                    refine v_goto 2 dX7_layOut_123 (by decide) ?_
                    refine V.weak (la2 := [some (.ref 2), some (.int l1), some (.int (l2 + 1)), none, none]) (by simp [wk]) ?_
                    exact (s_X7_layOut_IH_2) _ _ _ _ hF hG
              · rw [if_neg c112] at hF
                refine v_aload_n (i := 0) dX7_layOut_50 rfl rfl ?_
                refine v_iload_n (i := 2) dX7_layOut_51 rfl rfl ?_
                obtain ⟨q130, q130_e, hF⟩ := Option.bind_eq_some_iff.mp hF
                refine c_X7_192 rfl sh_2 (by exact ltG hG (by decide)) (Nat.le_of_ble_eq_true rfl) dX7_layOut_52 (s_X7_onLawn _ q130_e hG) (fun r1 h1 hq => ?_)
                obtain ⟨rfl, hq, hG⟩ := hq
                replace hq := hq.symm
                subst hq
                show V _ _ _ _ (_ :: _) _ _
                refine v_if_ne 68 dX7_layOut_55 (by decide) (fun c132 => ?_) (fun c132 => ?_)
                · rw [if_neg c132] at hF
                  refine v_iload_n (i := 3) dX7_layOut_68 rfl rfl ?_
                  refine v_if_eq 91 dX7_layOut_69 (by decide) (fun c133 => ?_) (fun c133 => ?_)
                  · rw [if_pos c133] at hF
                    refine v_iload (i := 4) dX7_layOut_91 rfl ?_
                    refine v_if_eq 120 dX7_layOut_93 (by decide) (fun c134 => ?_) (fun c134 => ?_)
                    · rw [if_pos c134] at hF
                      refine v_iinc (i := 2) (v := (l2 + 1)) dX7_layOut_120 rfl rfl (by decide) (nlT rfl) ?_
                      simp only [List.set_cons_zero, List.set_cons_succ]
                      refine v_goto 2 dX7_layOut_123 (by decide) ?_
                      refine V.weak (la2 := [some (.ref 2), some (.int l1), some (.int (l2 + 1)), none, none]) (by simp [wk]) ?_
                      exact (s_X7_layOut_IH_2) _ _ _ _ hF hG
                    · rw [if_neg c134] at hF
                      refine v_aload_n (i := 0) dX7_layOut_96 rfl rfl ?_
                      refine g_X7_21 (q := 10) rfl sh_2 (by exact ltG hG (by decide)) (by exact rG hG r0_2_1) dX7_layOut_97 ?_
                      refine v_aload_n (i := 0) dX7_layOut_100 rfl rfl ?_
                      refine v_iload_n (i := 2) dX7_layOut_101 rfl rfl ?_
                      obtain ⟨q135, q135_e, hF⟩ := Option.bind_eq_some_iff.mp hF
                      refine c_X7_198 rfl sh_2 (by exact ltG hG (by decide)) (Nat.le_of_ble_eq_true rfl) dX7_layOut_102 (s_X7_cellOf _ q135_e hG) (fun r1 h1 hq => ?_)
                      obtain ⟨rfl, hq, hG⟩ := hq
                      replace hq := hq.symm
                      subst hq
                      show V _ _ _ _ (_ :: _) _ _
                      refine v_aload_n (i := 0) dX7_layOut_105 rfl rfl ?_
                      refine g_X7_49 (q := 16) rfl sh_2 (by exact ltG hG (by decide)) (by exact rG hG r0_2_10) dX7_layOut_106 ?_
                      refine v_iload_n (i := 2) dX7_layOut_109 rfl rfl ?_
                      obtain ⟨k137, hF⟩ := ck_some hF
                      refine v_iaload sh_16 (by exact ltG hG (by decide)) (ixO k137) dX7_layOut_110 ?_
                      refine v_aload_n (i := 0) dX7_layOut_111 rfl rfl ?_
                      refine g_X7_52 (q := 17) rfl sh_2 (by exact ltG hG (by decide)) (by exact rG hG r0_2_11) dX7_layOut_112 ?_
                      refine v_iload_n (i := 2) dX7_layOut_115 rfl rfl ?_
                      obtain ⟨k138, hF⟩ := ck_some hF
                      refine v_iaload sh_17 (by exact ltG hG (by decide)) (ixO k138) dX7_layOut_116 ?_
                      obtain ⟨q139, q139_e, hF⟩ := Option.bind_eq_some_iff.mp hF
                      refine c_X7_201 rfl sh_10 (by exact ltG hG (by decide)) (Nat.le_of_ble_eq_true rfl) dX7_layOut_117 (s_X8_soundIn _ q139_e hG (by first | assumption | exact sc_30 | exact sc_34 | exact sc_10 | exact fd_24 | exact fd_4 | exact lw_25 | exact lw_5 | exact bd_23 | exact bd_3 | exact ⟨by first | assumption | rfl, by first | decide | omega⟩)) (fun r1 h1 hq => ?_)
                      obtain ⟨rfl, hq, hG⟩ := hq
                      replace hq := hq.symm
                      subst hq
                      simp only [Option.toList, List.nil_append]
                      refine v_iinc (i := 2) (v := (l2 + 1)) dX7_layOut_120 rfl rfl (by decide) (nlT rfl) ?_
                      simp only [List.set_cons_zero, List.set_cons_succ]
                      refine v_goto 2 dX7_layOut_123 (by decide) ?_
                      refine V.weak (la2 := [some (.ref 2), some (.int l1), some (.int (l2 + 1)), none, none]) (by simp [wk]) ?_
                      exact (s_X7_layOut_IH_2) _ _ _ _ hF hG
                  · rw [if_neg c133] at hF
                    refine v_aload_n (i := 0) dX7_layOut_72 rfl rfl ?_
                    refine g_X7_21 (q := 10) rfl sh_2 (by exact ltG hG (by decide)) (by exact rG hG r0_2_1) dX7_layOut_73 ?_
                    refine v_dup dX7_layOut_76 rfl ?_
                    refine g_X7_195 rfl sh_10 (by exact ltG hG (by decide)) dX7_layOut_77 ?_
                    refine v_iconst (v := 1) dX7_layOut_80 (by decide) ?_
                    refine v_aload_n (i := 0) dX7_layOut_81 rfl rfl ?_
                    refine v_iload_n (i := 2) dX7_layOut_82 rfl rfl ?_
                    obtain ⟨q141, q141_e, hF⟩ := Option.bind_eq_some_iff.mp hF
                    refine c_X7_198 rfl sh_2 (by exact ltG hG (by decide)) (Nat.le_of_ble_eq_true rfl) dX7_layOut_83 (s_X7_cellOf _ q141_e hG) (fun r1 h1 hq => ?_)
                    obtain ⟨rfl, hq, hG⟩ := hq
                    replace hq := hq.symm
                    subst hq
                    show V _ _ _ _ (_ :: _) _ _
                    refine v_ishl dX7_layOut_86 ?_
                    refine v_ior dX7_layOut_87 ?_
                    refine p_X7_195 rfl sh_10 (by exact ltG hG (by decide)) dX7_layOut_88 ?_
                    refine v_iload (i := 4) dX7_layOut_91 rfl ?_
                    refine v_if_eq 120 dX7_layOut_93 (by decide) (fun c143 => ?_) (fun c143 => ?_)
                    · rw [if_pos c143] at hF
                      refine v_iinc (i := 2) (v := (l2 + 1)) dX7_layOut_120 rfl rfl (by decide) (nlT rfl) ?_
                      simp only [List.set_cons_zero, List.set_cons_succ]
                      refine v_goto 2 dX7_layOut_123 (by decide) ?_
                      refine V.weak (la2 := [some (.ref 2), some (.int l1), some (.int (l2 + 1)), none, none]) (by simp [wk]) ?_
                      exact (s_X7_layOut_IH_2) _ _ _ _ hF hG
                    · rw [if_neg c143] at hF
                      refine v_aload_n (i := 0) dX7_layOut_96 rfl rfl ?_
                      refine g_X7_21 (q := 10) rfl sh_2 (by exact ltG hG (by decide)) (by exact rG hG r0_2_1) dX7_layOut_97 ?_
                      refine v_aload_n (i := 0) dX7_layOut_100 rfl rfl ?_
                      refine v_iload_n (i := 2) dX7_layOut_101 rfl rfl ?_
                      obtain ⟨q144, q144_e, hF⟩ := Option.bind_eq_some_iff.mp hF
                      refine c_X7_198 rfl sh_2 (by exact ltG hG (by decide)) (Nat.le_of_ble_eq_true rfl) dX7_layOut_102 (s_X7_cellOf _ q144_e hG) (fun r1 h1 hq => ?_)
                      obtain ⟨rfl, hq, hG⟩ := hq
                      replace hq := hq.symm
                      subst hq
                      show V _ _ _ _ (_ :: _) _ _
                      refine v_aload_n (i := 0) dX7_layOut_105 rfl rfl ?_
                      refine g_X7_49 (q := 16) rfl sh_2 (by exact ltG hG (by decide)) (by exact rG hG r0_2_10) dX7_layOut_106 ?_
                      refine v_iload_n (i := 2) dX7_layOut_109 rfl rfl ?_
                      obtain ⟨k146, hF⟩ := ck_some hF
                      refine v_iaload sh_16 (by exact ltG hG (by decide)) (ixO k146) dX7_layOut_110 ?_
                      refine v_aload_n (i := 0) dX7_layOut_111 rfl rfl ?_
                      refine g_X7_52 (q := 17) rfl sh_2 (by exact ltG hG (by decide)) (by exact rG hG r0_2_11) dX7_layOut_112 ?_
                      refine v_iload_n (i := 2) dX7_layOut_115 rfl rfl ?_
                      obtain ⟨k147, hF⟩ := ck_some hF
                      refine v_iaload sh_17 (by exact ltG hG (by decide)) (ixO k147) dX7_layOut_116 ?_
                      obtain ⟨q148, q148_e, hF⟩ := Option.bind_eq_some_iff.mp hF
                      refine c_X7_201 rfl sh_10 (by exact ltG hG (by decide)) (Nat.le_of_ble_eq_true rfl) dX7_layOut_117 (s_X8_soundIn _ q148_e hG (by first | assumption | exact sc_30 | exact sc_34 | exact sc_10 | exact fd_24 | exact fd_4 | exact lw_25 | exact lw_5 | exact bd_23 | exact bd_3 | exact ⟨by first | assumption | rfl, by first | decide | omega⟩)) (fun r1 h1 hq => ?_)
                      obtain ⟨rfl, hq, hG⟩ := hq
                      replace hq := hq.symm
                      subst hq
                      simp only [Option.toList, List.nil_append]
                      refine v_iinc (i := 2) (v := (l2 + 1)) dX7_layOut_120 rfl rfl (by decide) (nlT rfl) ?_
                      simp only [List.set_cons_zero, List.set_cons_succ]
                      refine v_goto 2 dX7_layOut_123 (by decide) ?_
                      refine V.weak (la2 := [some (.ref 2), some (.int l1), some (.int (l2 + 1)), none, none]) (by simp [wk]) ?_
                      exact (s_X7_layOut_IH_2) _ _ _ _ hF hG
                · rw [if_pos c132] at hF
                  refine v_aload_n (i := 0) dX7_layOut_58 rfl rfl ?_
                  refine v_bipush (v := 6) dX7_layOut_59 (by decide) ?_
                  refine v_iload_n (i := 1) dX7_layOut_61 rfl rfl ?_
                  obtain ⟨q150, q150_e, hF⟩ := Option.bind_eq_some_iff.mp hF
                  refine c_X7_141 rfl sh_2 (by exact ltG hG (by decide)) (Nat.le_of_ble_eq_true rfl) dX7_layOut_62 (s_X7_blame _ q150_e hG) (fun r1 h1 hq => ?_)
                  obtain ⟨rfl, hq, hG⟩ := hq
                  replace hq := hq.symm
                  subst hq
                  simp only [Option.toList, List.nil_append]
                  refine v_goto 91 dX7_layOut_65 (by decide) ?_
                  refine v_iload (i := 4) dX7_layOut_91 rfl ?_
                  refine v_if_eq 120 dX7_layOut_93 (by decide) (fun c152 => ?_) (fun c152 => ?_)
                  · rw [if_pos c152] at hF
                    refine v_iinc (i := 2) (v := (l2 + 1)) dX7_layOut_120 rfl rfl (by decide) (nlT rfl) ?_
                    simp only [List.set_cons_zero, List.set_cons_succ]
                    refine v_goto 2 dX7_layOut_123 (by decide) ?_
                    refine V.weak (la2 := [some (.ref 2), some (.int l1), some (.int (l2 + 1)), none, none]) (by simp [wk]) ?_
                    exact (s_X7_layOut_IH_2) _ _ _ _ hF hG
                  · rw [if_neg c152] at hF
                    refine v_aload_n (i := 0) dX7_layOut_96 rfl rfl ?_
                    refine g_X7_21 (q := 10) rfl sh_2 (by exact ltG hG (by decide)) (by exact rG hG r0_2_1) dX7_layOut_97 ?_
                    refine v_aload_n (i := 0) dX7_layOut_100 rfl rfl ?_
                    refine v_iload_n (i := 2) dX7_layOut_101 rfl rfl ?_
                    obtain ⟨q153, q153_e, hF⟩ := Option.bind_eq_some_iff.mp hF
                    refine c_X7_198 rfl sh_2 (by exact ltG hG (by decide)) (Nat.le_of_ble_eq_true rfl) dX7_layOut_102 (s_X7_cellOf _ q153_e hG) (fun r1 h1 hq => ?_)
                    obtain ⟨rfl, hq, hG⟩ := hq
                    replace hq := hq.symm
                    subst hq
                    show V _ _ _ _ (_ :: _) _ _
                    refine v_aload_n (i := 0) dX7_layOut_105 rfl rfl ?_
                    refine g_X7_49 (q := 16) rfl sh_2 (by exact ltG hG (by decide)) (by exact rG hG r0_2_10) dX7_layOut_106 ?_
                    refine v_iload_n (i := 2) dX7_layOut_109 rfl rfl ?_
                    obtain ⟨k155, hF⟩ := ck_some hF
                    refine v_iaload sh_16 (by exact ltG hG (by decide)) (ixO k155) dX7_layOut_110 ?_
                    refine v_aload_n (i := 0) dX7_layOut_111 rfl rfl ?_
                    refine g_X7_52 (q := 17) rfl sh_2 (by exact ltG hG (by decide)) (by exact rG hG r0_2_11) dX7_layOut_112 ?_
                    refine v_iload_n (i := 2) dX7_layOut_115 rfl rfl ?_
                    obtain ⟨k156, hF⟩ := ck_some hF
                    refine v_iaload sh_17 (by exact ltG hG (by decide)) (ixO k156) dX7_layOut_116 ?_
                    obtain ⟨q157, q157_e, hF⟩ := Option.bind_eq_some_iff.mp hF
                    refine c_X7_201 rfl sh_10 (by exact ltG hG (by decide)) (Nat.le_of_ble_eq_true rfl) dX7_layOut_117 (s_X8_soundIn _ q157_e hG (by first | assumption | exact sc_30 | exact sc_34 | exact sc_10 | exact fd_24 | exact fd_4 | exact lw_25 | exact lw_5 | exact bd_23 | exact bd_3 | exact ⟨by first | assumption | rfl, by first | decide | omega⟩)) (fun r1 h1 hq => ?_)
                    obtain ⟨rfl, hq, hG⟩ := hq
                    replace hq := hq.symm
                    subst hq
                    simp only [Option.toList, List.nil_append]
                    refine v_iinc (i := 2) (v := (l2 + 1)) dX7_layOut_120 rfl rfl (by decide) (nlT rfl) ?_
                    simp only [List.set_cons_zero, List.set_cons_succ]
                    refine v_goto 2 dX7_layOut_123 (by decide) ?_
                    refine V.weak (la2 := [some (.ref 2), some (.int l1), some (.int (l2 + 1)), none, none]) (by simp [wk]) ?_
                    exact (s_X7_layOut_IH_2) _ _ _ _ hF hG
        · rw [if_neg c2] at hF
          refine v_iconst (v := 1) dX7_layOut_19 (by decide) ?_
          refine v_goto 24 dX7_layOut_20 (by decide) ?_
          refine v_istore_n (i := 3) dX7_layOut_24 rfl (by decide) (nlT rfl) ?_
          simp only [List.set_cons_zero, List.set_cons_succ]
          refine v_aload_n (i := 0) dX7_layOut_25 rfl rfl ?_
          refine g_X7_49 (q := 16) rfl sh_2 (by exact ltG hG (by decide)) (by exact rG hG r0_2_10) dX7_layOut_26 ?_
          refine v_iload_n (i := 2) dX7_layOut_29 rfl rfl ?_
          obtain ⟨k159, hF⟩ := ck_some hF
          refine v_iaload sh_16 (by exact ltG hG (by decide)) (ixO k159) dX7_layOut_30 ?_
          refine v_if_le 38 dX7_layOut_31 (by decide) (fun c160 => ?_) (fun c160 => ?_)
          · rw [if_pos c160] at hF
            refine v_iconst (v := 0) dX7_layOut_38 (by decide) ?_
            refine v_istore (i := 4) dX7_layOut_39 (by decide) (nlT rfl) ?_
            simp only [List.set_cons_zero, List.set_cons_succ]
            refine v_iload_n (i := 3) dX7_layOut_41 rfl rfl ?_
            refine v_if_ne 50 dX7_layOut_42 (by decide) (fun c161 => ?_) (fun c161 => ?_)
            · rw [if_neg c161] at hF
              refine v_aload_n (i := 0) dX7_layOut_50 rfl rfl ?_
              refine v_iload_n (i := 2) dX7_layOut_51 rfl rfl ?_
              obtain ⟨q162, q162_e, hF⟩ := Option.bind_eq_some_iff.mp hF
              refine c_X7_192 rfl sh_2 (by exact ltG hG (by decide)) (Nat.le_of_ble_eq_true rfl) dX7_layOut_52 (s_X7_onLawn _ q162_e hG) (fun r1 h1 hq => ?_)
              obtain ⟨rfl, hq, hG⟩ := hq
              replace hq := hq.symm
              subst hq
              show V _ _ _ _ (_ :: _) _ _
              refine v_if_ne 68 dX7_layOut_55 (by decide) (fun c164 => ?_) (fun c164 => ?_)
              · rw [if_neg c164] at hF
                refine v_iload_n (i := 3) dX7_layOut_68 rfl rfl ?_
                refine v_if_eq 91 dX7_layOut_69 (by decide) (fun c165 => ?_) (fun c165 => ?_)
                · rw [if_pos c165] at hF
                  refine v_iload (i := 4) dX7_layOut_91 rfl ?_
                  refine v_if_eq 120 dX7_layOut_93 (by decide) (fun c166 => ?_) (fun c166 => ?_)
                  · rw [if_pos c166] at hF
                    refine v_iinc (i := 2) (v := (l2 + 1)) dX7_layOut_120 rfl rfl (by decide) (nlT rfl) ?_
                    simp only [List.set_cons_zero, List.set_cons_succ]
                    refine v_goto 2 dX7_layOut_123 (by decide) ?_
                    refine V.weak (la2 := [some (.ref 2), some (.int l1), some (.int (l2 + 1)), none, none]) (by simp [wk]) ?_
                    exact (s_X7_layOut_IH_2) _ _ _ _ hF hG
                  · rw [if_neg c166] at hF
                    refine v_aload_n (i := 0) dX7_layOut_96 rfl rfl ?_
                    refine g_X7_21 (q := 10) rfl sh_2 (by exact ltG hG (by decide)) (by exact rG hG r0_2_1) dX7_layOut_97 ?_
                    refine v_aload_n (i := 0) dX7_layOut_100 rfl rfl ?_
                    refine v_iload_n (i := 2) dX7_layOut_101 rfl rfl ?_
                    obtain ⟨q167, q167_e, hF⟩ := Option.bind_eq_some_iff.mp hF
                    refine c_X7_198 rfl sh_2 (by exact ltG hG (by decide)) (Nat.le_of_ble_eq_true rfl) dX7_layOut_102 (s_X7_cellOf _ q167_e hG) (fun r1 h1 hq => ?_)
                    obtain ⟨rfl, hq, hG⟩ := hq
                    replace hq := hq.symm
                    subst hq
                    show V _ _ _ _ (_ :: _) _ _
                    refine v_aload_n (i := 0) dX7_layOut_105 rfl rfl ?_
                    refine g_X7_49 (q := 16) rfl sh_2 (by exact ltG hG (by decide)) (by exact rG hG r0_2_10) dX7_layOut_106 ?_
                    refine v_iload_n (i := 2) dX7_layOut_109 rfl rfl ?_
                    obtain ⟨k169, hF⟩ := ck_some hF
                    refine v_iaload sh_16 (by exact ltG hG (by decide)) (ixO k169) dX7_layOut_110 ?_
                    refine v_aload_n (i := 0) dX7_layOut_111 rfl rfl ?_
                    refine g_X7_52 (q := 17) rfl sh_2 (by exact ltG hG (by decide)) (by exact rG hG r0_2_11) dX7_layOut_112 ?_
                    refine v_iload_n (i := 2) dX7_layOut_115 rfl rfl ?_
                    obtain ⟨k170, hF⟩ := ck_some hF
                    refine v_iaload sh_17 (by exact ltG hG (by decide)) (ixO k170) dX7_layOut_116 ?_
                    obtain ⟨q171, q171_e, hF⟩ := Option.bind_eq_some_iff.mp hF
                    refine c_X7_201 rfl sh_10 (by exact ltG hG (by decide)) (Nat.le_of_ble_eq_true rfl) dX7_layOut_117 (s_X8_soundIn _ q171_e hG (by first | assumption | exact sc_30 | exact sc_34 | exact sc_10 | exact fd_24 | exact fd_4 | exact lw_25 | exact lw_5 | exact bd_23 | exact bd_3 | exact ⟨by first | assumption | rfl, by first | decide | omega⟩)) (fun r1 h1 hq => ?_)
                    obtain ⟨rfl, hq, hG⟩ := hq
                    replace hq := hq.symm
                    subst hq
                    simp only [Option.toList, List.nil_append]
                    refine v_iinc (i := 2) (v := (l2 + 1)) dX7_layOut_120 rfl rfl (by decide) (nlT rfl) ?_
                    simp only [List.set_cons_zero, List.set_cons_succ]
                    refine v_goto 2 dX7_layOut_123 (by decide) ?_
                    refine V.weak (la2 := [some (.ref 2), some (.int l1), some (.int (l2 + 1)), none, none]) (by simp [wk]) ?_
                    exact (s_X7_layOut_IH_2) _ _ _ _ hF hG
                · rw [if_neg c165] at hF
                  refine v_aload_n (i := 0) dX7_layOut_72 rfl rfl ?_
                  refine g_X7_21 (q := 10) rfl sh_2 (by exact ltG hG (by decide)) (by exact rG hG r0_2_1) dX7_layOut_73 ?_
                  refine v_dup dX7_layOut_76 rfl ?_
                  refine g_X7_195 rfl sh_10 (by exact ltG hG (by decide)) dX7_layOut_77 ?_
                  refine v_iconst (v := 1) dX7_layOut_80 (by decide) ?_
                  refine v_aload_n (i := 0) dX7_layOut_81 rfl rfl ?_
                  refine v_iload_n (i := 2) dX7_layOut_82 rfl rfl ?_
                  obtain ⟨q173, q173_e, hF⟩ := Option.bind_eq_some_iff.mp hF
                  refine c_X7_198 rfl sh_2 (by exact ltG hG (by decide)) (Nat.le_of_ble_eq_true rfl) dX7_layOut_83 (s_X7_cellOf _ q173_e hG) (fun r1 h1 hq => ?_)
                  obtain ⟨rfl, hq, hG⟩ := hq
                  replace hq := hq.symm
                  subst hq
                  show V _ _ _ _ (_ :: _) _ _
                  refine v_ishl dX7_layOut_86 ?_
                  refine v_ior dX7_layOut_87 ?_
                  refine p_X7_195 rfl sh_10 (by exact ltG hG (by decide)) dX7_layOut_88 ?_
                  refine v_iload (i := 4) dX7_layOut_91 rfl ?_
                  refine v_if_eq 120 dX7_layOut_93 (by decide) (fun c175 => ?_) (fun c175 => ?_)
                  · rw [if_pos c175] at hF
                    refine v_iinc (i := 2) (v := (l2 + 1)) dX7_layOut_120 rfl rfl (by decide) (nlT rfl) ?_
                    simp only [List.set_cons_zero, List.set_cons_succ]
                    refine v_goto 2 dX7_layOut_123 (by decide) ?_
                    refine V.weak (la2 := [some (.ref 2), some (.int l1), some (.int (l2 + 1)), none, none]) (by simp [wk]) ?_
                    exact (s_X7_layOut_IH_2) _ _ _ _ hF hG
                  · rw [if_neg c175] at hF
                    refine v_aload_n (i := 0) dX7_layOut_96 rfl rfl ?_
                    refine g_X7_21 (q := 10) rfl sh_2 (by exact ltG hG (by decide)) (by exact rG hG r0_2_1) dX7_layOut_97 ?_
                    refine v_aload_n (i := 0) dX7_layOut_100 rfl rfl ?_
                    refine v_iload_n (i := 2) dX7_layOut_101 rfl rfl ?_
                    obtain ⟨q176, q176_e, hF⟩ := Option.bind_eq_some_iff.mp hF
                    refine c_X7_198 rfl sh_2 (by exact ltG hG (by decide)) (Nat.le_of_ble_eq_true rfl) dX7_layOut_102 (s_X7_cellOf _ q176_e hG) (fun r1 h1 hq => ?_)
                    obtain ⟨rfl, hq, hG⟩ := hq
                    replace hq := hq.symm
                    subst hq
                    show V _ _ _ _ (_ :: _) _ _
                    refine v_aload_n (i := 0) dX7_layOut_105 rfl rfl ?_
                    refine g_X7_49 (q := 16) rfl sh_2 (by exact ltG hG (by decide)) (by exact rG hG r0_2_10) dX7_layOut_106 ?_
                    refine v_iload_n (i := 2) dX7_layOut_109 rfl rfl ?_
                    obtain ⟨k178, hF⟩ := ck_some hF
                    refine v_iaload sh_16 (by exact ltG hG (by decide)) (ixO k178) dX7_layOut_110 ?_
                    refine v_aload_n (i := 0) dX7_layOut_111 rfl rfl ?_
                    refine g_X7_52 (q := 17) rfl sh_2 (by exact ltG hG (by decide)) (by exact rG hG r0_2_11) dX7_layOut_112 ?_
                    refine v_iload_n (i := 2) dX7_layOut_115 rfl rfl ?_
                    obtain ⟨k179, hF⟩ := ck_some hF
                    refine v_iaload sh_17 (by exact ltG hG (by decide)) (ixO k179) dX7_layOut_116 ?_
                    obtain ⟨q180, q180_e, hF⟩ := Option.bind_eq_some_iff.mp hF
                    refine c_X7_201 rfl sh_10 (by exact ltG hG (by decide)) (Nat.le_of_ble_eq_true rfl) dX7_layOut_117 (s_X8_soundIn _ q180_e hG (by first | assumption | exact sc_30 | exact sc_34 | exact sc_10 | exact fd_24 | exact fd_4 | exact lw_25 | exact lw_5 | exact bd_23 | exact bd_3 | exact ⟨by first | assumption | rfl, by first | decide | omega⟩)) (fun r1 h1 hq => ?_)
                    obtain ⟨rfl, hq, hG⟩ := hq
                    replace hq := hq.symm
                    subst hq
                    simp only [Option.toList, List.nil_append]
                    refine v_iinc (i := 2) (v := (l2 + 1)) dX7_layOut_120 rfl rfl (by decide) (nlT rfl) ?_
                    simp only [List.set_cons_zero, List.set_cons_succ]
                    refine v_goto 2 dX7_layOut_123 (by decide) ?_
                    refine V.weak (la2 := [some (.ref 2), some (.int l1), some (.int (l2 + 1)), none, none]) (by simp [wk]) ?_
                    exact (s_X7_layOut_IH_2) _ _ _ _ hF hG
              · rw [if_pos c164] at hF
                refine v_aload_n (i := 0) dX7_layOut_58 rfl rfl ?_
                refine v_bipush (v := 6) dX7_layOut_59 (by decide) ?_
                refine v_iload_n (i := 1) dX7_layOut_61 rfl rfl ?_
                obtain ⟨q182, q182_e, hF⟩ := Option.bind_eq_some_iff.mp hF
                refine c_X7_141 rfl sh_2 (by exact ltG hG (by decide)) (Nat.le_of_ble_eq_true rfl) dX7_layOut_62 (s_X7_blame _ q182_e hG) (fun r1 h1 hq => ?_)
                obtain ⟨rfl, hq, hG⟩ := hq
                replace hq := hq.symm
                subst hq
                simp only [Option.toList, List.nil_append]
                refine v_goto 91 dX7_layOut_65 (by decide) ?_
                refine v_iload (i := 4) dX7_layOut_91 rfl ?_
                refine v_if_eq 120 dX7_layOut_93 (by decide) (fun c184 => ?_) (fun c184 => ?_)
                · rw [if_pos c184] at hF
                  refine v_iinc (i := 2) (v := (l2 + 1)) dX7_layOut_120 rfl rfl (by decide) (nlT rfl) ?_
                  simp only [List.set_cons_zero, List.set_cons_succ]
                  refine v_goto 2 dX7_layOut_123 (by decide) ?_
                  refine V.weak (la2 := [some (.ref 2), some (.int l1), some (.int (l2 + 1)), none, none]) (by simp [wk]) ?_
                  exact (s_X7_layOut_IH_2) _ _ _ _ hF hG
                · rw [if_neg c184] at hF
                  refine v_aload_n (i := 0) dX7_layOut_96 rfl rfl ?_
                  refine g_X7_21 (q := 10) rfl sh_2 (by exact ltG hG (by decide)) (by exact rG hG r0_2_1) dX7_layOut_97 ?_
                  refine v_aload_n (i := 0) dX7_layOut_100 rfl rfl ?_
                  refine v_iload_n (i := 2) dX7_layOut_101 rfl rfl ?_
                  obtain ⟨q185, q185_e, hF⟩ := Option.bind_eq_some_iff.mp hF
                  refine c_X7_198 rfl sh_2 (by exact ltG hG (by decide)) (Nat.le_of_ble_eq_true rfl) dX7_layOut_102 (s_X7_cellOf _ q185_e hG) (fun r1 h1 hq => ?_)
                  obtain ⟨rfl, hq, hG⟩ := hq
                  replace hq := hq.symm
                  subst hq
                  show V _ _ _ _ (_ :: _) _ _
                  refine v_aload_n (i := 0) dX7_layOut_105 rfl rfl ?_
                  refine g_X7_49 (q := 16) rfl sh_2 (by exact ltG hG (by decide)) (by exact rG hG r0_2_10) dX7_layOut_106 ?_
                  refine v_iload_n (i := 2) dX7_layOut_109 rfl rfl ?_
                  obtain ⟨k187, hF⟩ := ck_some hF
                  refine v_iaload sh_16 (by exact ltG hG (by decide)) (ixO k187) dX7_layOut_110 ?_
                  refine v_aload_n (i := 0) dX7_layOut_111 rfl rfl ?_
                  refine g_X7_52 (q := 17) rfl sh_2 (by exact ltG hG (by decide)) (by exact rG hG r0_2_11) dX7_layOut_112 ?_
                  refine v_iload_n (i := 2) dX7_layOut_115 rfl rfl ?_
                  obtain ⟨k188, hF⟩ := ck_some hF
                  refine v_iaload sh_17 (by exact ltG hG (by decide)) (ixO k188) dX7_layOut_116 ?_
                  obtain ⟨q189, q189_e, hF⟩ := Option.bind_eq_some_iff.mp hF
                  refine c_X7_201 rfl sh_10 (by exact ltG hG (by decide)) (Nat.le_of_ble_eq_true rfl) dX7_layOut_117 (s_X8_soundIn _ q189_e hG (by first | assumption | exact sc_30 | exact sc_34 | exact sc_10 | exact fd_24 | exact fd_4 | exact lw_25 | exact lw_5 | exact bd_23 | exact bd_3 | exact ⟨by first | assumption | rfl, by first | decide | omega⟩)) (fun r1 h1 hq => ?_)
                  obtain ⟨rfl, hq, hG⟩ := hq
                  replace hq := hq.symm
                  subst hq
                  simp only [Option.toList, List.nil_append]
                  refine v_iinc (i := 2) (v := (l2 + 1)) dX7_layOut_120 rfl rfl (by decide) (nlT rfl) ?_
                  simp only [List.set_cons_zero, List.set_cons_succ]
                  refine v_goto 2 dX7_layOut_123 (by decide) ?_
                  refine V.weak (la2 := [some (.ref 2), some (.int l1), some (.int (l2 + 1)), none, none]) (by simp [wk]) ?_
                  exact (s_X7_layOut_IH_2) _ _ _ _ hF hG
            · rw [if_pos c161] at hF
              refine v_iload (i := 4) dX7_layOut_45 rfl ?_
              refine v_if_eq 68 dX7_layOut_47 (by decide) (fun c191 => ?_) (fun c191 => ?_)
              · rw [if_pos c191] at hF
                refine v_iload_n (i := 3) dX7_layOut_68 rfl rfl ?_
                refine v_if_eq 91 dX7_layOut_69 (by decide) (fun c192 => ?_) (fun c192 => ?_)
                · rw [if_pos c192] at hF
                  refine v_iload (i := 4) dX7_layOut_91 rfl ?_
                  refine v_if_eq 120 dX7_layOut_93 (by decide) (fun c193 => ?_) (fun c193 => ?_)
                  · rw [if_pos c193] at hF
                    refine v_iinc (i := 2) (v := (l2 + 1)) dX7_layOut_120 rfl rfl (by decide) (nlT rfl) ?_
                    simp only [List.set_cons_zero, List.set_cons_succ]
                    refine v_goto 2 dX7_layOut_123 (by decide) ?_
                    refine V.weak (la2 := [some (.ref 2), some (.int l1), some (.int (l2 + 1)), none, none]) (by simp [wk]) ?_
                    exact (s_X7_layOut_IH_2) _ _ _ _ hF hG
                  · rw [if_neg c193] at hF
                    refine v_aload_n (i := 0) dX7_layOut_96 rfl rfl ?_
                    refine g_X7_21 (q := 10) rfl sh_2 (by exact ltG hG (by decide)) (by exact rG hG r0_2_1) dX7_layOut_97 ?_
                    refine v_aload_n (i := 0) dX7_layOut_100 rfl rfl ?_
                    refine v_iload_n (i := 2) dX7_layOut_101 rfl rfl ?_
                    obtain ⟨q194, q194_e, hF⟩ := Option.bind_eq_some_iff.mp hF
                    refine c_X7_198 rfl sh_2 (by exact ltG hG (by decide)) (Nat.le_of_ble_eq_true rfl) dX7_layOut_102 (s_X7_cellOf _ q194_e hG) (fun r1 h1 hq => ?_)
                    obtain ⟨rfl, hq, hG⟩ := hq
                    replace hq := hq.symm
                    subst hq
                    show V _ _ _ _ (_ :: _) _ _
                    refine v_aload_n (i := 0) dX7_layOut_105 rfl rfl ?_
                    refine g_X7_49 (q := 16) rfl sh_2 (by exact ltG hG (by decide)) (by exact rG hG r0_2_10) dX7_layOut_106 ?_
                    refine v_iload_n (i := 2) dX7_layOut_109 rfl rfl ?_
                    obtain ⟨k196, hF⟩ := ck_some hF
                    refine v_iaload sh_16 (by exact ltG hG (by decide)) (ixO k196) dX7_layOut_110 ?_
                    refine v_aload_n (i := 0) dX7_layOut_111 rfl rfl ?_
                    refine g_X7_52 (q := 17) rfl sh_2 (by exact ltG hG (by decide)) (by exact rG hG r0_2_11) dX7_layOut_112 ?_
                    refine v_iload_n (i := 2) dX7_layOut_115 rfl rfl ?_
                    obtain ⟨k197, hF⟩ := ck_some hF
                    refine v_iaload sh_17 (by exact ltG hG (by decide)) (ixO k197) dX7_layOut_116 ?_
                    obtain ⟨q198, q198_e, hF⟩ := Option.bind_eq_some_iff.mp hF
                    refine c_X7_201 rfl sh_10 (by exact ltG hG (by decide)) (Nat.le_of_ble_eq_true rfl) dX7_layOut_117 (s_X8_soundIn _ q198_e hG (by first | assumption | exact sc_30 | exact sc_34 | exact sc_10 | exact fd_24 | exact fd_4 | exact lw_25 | exact lw_5 | exact bd_23 | exact bd_3 | exact ⟨by first | assumption | rfl, by first | decide | omega⟩)) (fun r1 h1 hq => ?_)
                    obtain ⟨rfl, hq, hG⟩ := hq
                    replace hq := hq.symm
                    subst hq
                    simp only [Option.toList, List.nil_append]
                    refine v_iinc (i := 2) (v := (l2 + 1)) dX7_layOut_120 rfl rfl (by decide) (nlT rfl) ?_
                    simp only [List.set_cons_zero, List.set_cons_succ]
                    refine v_goto 2 dX7_layOut_123 (by decide) ?_
                    refine V.weak (la2 := [some (.ref 2), some (.int l1), some (.int (l2 + 1)), none, none]) (by simp [wk]) ?_
                    exact (s_X7_layOut_IH_2) _ _ _ _ hF hG
                · rw [if_neg c192] at hF
                  refine v_aload_n (i := 0) dX7_layOut_72 rfl rfl ?_
                  refine g_X7_21 (q := 10) rfl sh_2 (by exact ltG hG (by decide)) (by exact rG hG r0_2_1) dX7_layOut_73 ?_
                  refine v_dup dX7_layOut_76 rfl ?_
                  refine g_X7_195 rfl sh_10 (by exact ltG hG (by decide)) dX7_layOut_77 ?_
                  refine v_iconst (v := 1) dX7_layOut_80 (by decide) ?_
                  refine v_aload_n (i := 0) dX7_layOut_81 rfl rfl ?_
                  refine v_iload_n (i := 2) dX7_layOut_82 rfl rfl ?_
                  obtain ⟨q200, q200_e, hF⟩ := Option.bind_eq_some_iff.mp hF
                  refine c_X7_198 rfl sh_2 (by exact ltG hG (by decide)) (Nat.le_of_ble_eq_true rfl) dX7_layOut_83 (s_X7_cellOf _ q200_e hG) (fun r1 h1 hq => ?_)
                  obtain ⟨rfl, hq, hG⟩ := hq
                  replace hq := hq.symm
                  subst hq
                  show V _ _ _ _ (_ :: _) _ _
                  refine v_ishl dX7_layOut_86 ?_
                  refine v_ior dX7_layOut_87 ?_
                  refine p_X7_195 rfl sh_10 (by exact ltG hG (by decide)) dX7_layOut_88 ?_
                  refine v_iload (i := 4) dX7_layOut_91 rfl ?_
                  refine v_if_eq 120 dX7_layOut_93 (by decide) (fun c202 => ?_) (fun c202 => ?_)
                  · rw [if_pos c202] at hF
                    refine v_iinc (i := 2) (v := (l2 + 1)) dX7_layOut_120 rfl rfl (by decide) (nlT rfl) ?_
                    simp only [List.set_cons_zero, List.set_cons_succ]
                    refine v_goto 2 dX7_layOut_123 (by decide) ?_
                    refine V.weak (la2 := [some (.ref 2), some (.int l1), some (.int (l2 + 1)), none, none]) (by simp [wk]) ?_
                    exact (s_X7_layOut_IH_2) _ _ _ _ hF hG
                  · rw [if_neg c202] at hF
                    refine v_aload_n (i := 0) dX7_layOut_96 rfl rfl ?_
                    refine g_X7_21 (q := 10) rfl sh_2 (by exact ltG hG (by decide)) (by exact rG hG r0_2_1) dX7_layOut_97 ?_
                    refine v_aload_n (i := 0) dX7_layOut_100 rfl rfl ?_
                    refine v_iload_n (i := 2) dX7_layOut_101 rfl rfl ?_
                    obtain ⟨q203, q203_e, hF⟩ := Option.bind_eq_some_iff.mp hF
                    refine c_X7_198 rfl sh_2 (by exact ltG hG (by decide)) (Nat.le_of_ble_eq_true rfl) dX7_layOut_102 (s_X7_cellOf _ q203_e hG) (fun r1 h1 hq => ?_)
                    obtain ⟨rfl, hq, hG⟩ := hq
                    replace hq := hq.symm
                    subst hq
                    show V _ _ _ _ (_ :: _) _ _
                    refine v_aload_n (i := 0) dX7_layOut_105 rfl rfl ?_
                    refine g_X7_49 (q := 16) rfl sh_2 (by exact ltG hG (by decide)) (by exact rG hG r0_2_10) dX7_layOut_106 ?_
                    refine v_iload_n (i := 2) dX7_layOut_109 rfl rfl ?_
                    obtain ⟨k205, hF⟩ := ck_some hF
                    refine v_iaload sh_16 (by exact ltG hG (by decide)) (ixO k205) dX7_layOut_110 ?_
                    refine v_aload_n (i := 0) dX7_layOut_111 rfl rfl ?_
                    refine g_X7_52 (q := 17) rfl sh_2 (by exact ltG hG (by decide)) (by exact rG hG r0_2_11) dX7_layOut_112 ?_
                    refine v_iload_n (i := 2) dX7_layOut_115 rfl rfl ?_
                    obtain ⟨k206, hF⟩ := ck_some hF
                    refine v_iaload sh_17 (by exact ltG hG (by decide)) (ixO k206) dX7_layOut_116 ?_
                    obtain ⟨q207, q207_e, hF⟩ := Option.bind_eq_some_iff.mp hF
                    refine c_X7_201 rfl sh_10 (by exact ltG hG (by decide)) (Nat.le_of_ble_eq_true rfl) dX7_layOut_117 (s_X8_soundIn _ q207_e hG (by first | assumption | exact sc_30 | exact sc_34 | exact sc_10 | exact fd_24 | exact fd_4 | exact lw_25 | exact lw_5 | exact bd_23 | exact bd_3 | exact ⟨by first | assumption | rfl, by first | decide | omega⟩)) (fun r1 h1 hq => ?_)
                    obtain ⟨rfl, hq, hG⟩ := hq
                    replace hq := hq.symm
                    subst hq
                    simp only [Option.toList, List.nil_append]
                    refine v_iinc (i := 2) (v := (l2 + 1)) dX7_layOut_120 rfl rfl (by decide) (nlT rfl) ?_
                    simp only [List.set_cons_zero, List.set_cons_succ]
                    refine v_goto 2 dX7_layOut_123 (by decide) ?_
                    refine V.weak (la2 := [some (.ref 2), some (.int l1), some (.int (l2 + 1)), none, none]) (by simp [wk]) ?_
                    exact (s_X7_layOut_IH_2) _ _ _ _ hF hG
              · rw [if_neg c191] at hF
                refine v_aload_n (i := 0) dX7_layOut_50 rfl rfl ?_
                refine v_iload_n (i := 2) dX7_layOut_51 rfl rfl ?_
                obtain ⟨q209, q209_e, hF⟩ := Option.bind_eq_some_iff.mp hF
                refine c_X7_192 rfl sh_2 (by exact ltG hG (by decide)) (Nat.le_of_ble_eq_true rfl) dX7_layOut_52 (s_X7_onLawn _ q209_e hG) (fun r1 h1 hq => ?_)
                obtain ⟨rfl, hq, hG⟩ := hq
                replace hq := hq.symm
                subst hq
                show V _ _ _ _ (_ :: _) _ _
                refine v_if_ne 68 dX7_layOut_55 (by decide) (fun c211 => ?_) (fun c211 => ?_)
                · rw [if_neg c211] at hF
                  refine v_iload_n (i := 3) dX7_layOut_68 rfl rfl ?_
                  refine v_if_eq 91 dX7_layOut_69 (by decide) (fun c212 => ?_) (fun c212 => ?_)
                  · rw [if_pos c212] at hF
                    refine v_iload (i := 4) dX7_layOut_91 rfl ?_
                    refine v_if_eq 120 dX7_layOut_93 (by decide) (fun c213 => ?_) (fun c213 => ?_)
                    · rw [if_pos c213] at hF
                      refine v_iinc (i := 2) (v := (l2 + 1)) dX7_layOut_120 rfl rfl (by decide) (nlT rfl) ?_
                      simp only [List.set_cons_zero, List.set_cons_succ]
                      refine v_goto 2 dX7_layOut_123 (by decide) ?_
                      refine V.weak (la2 := [some (.ref 2), some (.int l1), some (.int (l2 + 1)), none, none]) (by simp [wk]) ?_
                      exact (s_X7_layOut_IH_2) _ _ _ _ hF hG
                    · rw [if_neg c213] at hF
                      refine v_aload_n (i := 0) dX7_layOut_96 rfl rfl ?_
                      refine g_X7_21 (q := 10) rfl sh_2 (by exact ltG hG (by decide)) (by exact rG hG r0_2_1) dX7_layOut_97 ?_
                      refine v_aload_n (i := 0) dX7_layOut_100 rfl rfl ?_
                      refine v_iload_n (i := 2) dX7_layOut_101 rfl rfl ?_
                      obtain ⟨q214, q214_e, hF⟩ := Option.bind_eq_some_iff.mp hF
                      refine c_X7_198 rfl sh_2 (by exact ltG hG (by decide)) (Nat.le_of_ble_eq_true rfl) dX7_layOut_102 (s_X7_cellOf _ q214_e hG) (fun r1 h1 hq => ?_)
                      obtain ⟨rfl, hq, hG⟩ := hq
                      replace hq := hq.symm
                      subst hq
                      show V _ _ _ _ (_ :: _) _ _
                      refine v_aload_n (i := 0) dX7_layOut_105 rfl rfl ?_
                      refine g_X7_49 (q := 16) rfl sh_2 (by exact ltG hG (by decide)) (by exact rG hG r0_2_10) dX7_layOut_106 ?_
                      refine v_iload_n (i := 2) dX7_layOut_109 rfl rfl ?_
                      obtain ⟨k216, hF⟩ := ck_some hF
                      refine v_iaload sh_16 (by exact ltG hG (by decide)) (ixO k216) dX7_layOut_110 ?_
                      refine v_aload_n (i := 0) dX7_layOut_111 rfl rfl ?_
                      refine g_X7_52 (q := 17) rfl sh_2 (by exact ltG hG (by decide)) (by exact rG hG r0_2_11) dX7_layOut_112 ?_
                      refine v_iload_n (i := 2) dX7_layOut_115 rfl rfl ?_
                      obtain ⟨k217, hF⟩ := ck_some hF
                      refine v_iaload sh_17 (by exact ltG hG (by decide)) (ixO k217) dX7_layOut_116 ?_
                      obtain ⟨q218, q218_e, hF⟩ := Option.bind_eq_some_iff.mp hF
                      refine c_X7_201 rfl sh_10 (by exact ltG hG (by decide)) (Nat.le_of_ble_eq_true rfl) dX7_layOut_117 (s_X8_soundIn _ q218_e hG (by first | assumption | exact sc_30 | exact sc_34 | exact sc_10 | exact fd_24 | exact fd_4 | exact lw_25 | exact lw_5 | exact bd_23 | exact bd_3 | exact ⟨by first | assumption | rfl, by first | decide | omega⟩)) (fun r1 h1 hq => ?_)
                      obtain ⟨rfl, hq, hG⟩ := hq
                      replace hq := hq.symm
                      subst hq
                      simp only [Option.toList, List.nil_append]
                      refine v_iinc (i := 2) (v := (l2 + 1)) dX7_layOut_120 rfl rfl (by decide) (nlT rfl) ?_
                      simp only [List.set_cons_zero, List.set_cons_succ]
                      refine v_goto 2 dX7_layOut_123 (by decide) ?_
                      refine V.weak (la2 := [some (.ref 2), some (.int l1), some (.int (l2 + 1)), none, none]) (by simp [wk]) ?_
                      exact (s_X7_layOut_IH_2) _ _ _ _ hF hG
                  · rw [if_neg c212] at hF
                    refine v_aload_n (i := 0) dX7_layOut_72 rfl rfl ?_
                    refine g_X7_21 (q := 10) rfl sh_2 (by exact ltG hG (by decide)) (by exact rG hG r0_2_1) dX7_layOut_73 ?_
                    refine v_dup dX7_layOut_76 rfl ?_
                    refine g_X7_195 rfl sh_10 (by exact ltG hG (by decide)) dX7_layOut_77 ?_
                    refine v_iconst (v := 1) dX7_layOut_80 (by decide) ?_
                    refine v_aload_n (i := 0) dX7_layOut_81 rfl rfl ?_
                    refine v_iload_n (i := 2) dX7_layOut_82 rfl rfl ?_
                    obtain ⟨q220, q220_e, hF⟩ := Option.bind_eq_some_iff.mp hF
                    refine c_X7_198 rfl sh_2 (by exact ltG hG (by decide)) (Nat.le_of_ble_eq_true rfl) dX7_layOut_83 (s_X7_cellOf _ q220_e hG) (fun r1 h1 hq => ?_)
                    obtain ⟨rfl, hq, hG⟩ := hq
                    replace hq := hq.symm
                    subst hq
                    show V _ _ _ _ (_ :: _) _ _
                    refine v_ishl dX7_layOut_86 ?_
                    refine v_ior dX7_layOut_87 ?_
                    refine p_X7_195 rfl sh_10 (by exact ltG hG (by decide)) dX7_layOut_88 ?_
                    refine v_iload (i := 4) dX7_layOut_91 rfl ?_
                    refine v_if_eq 120 dX7_layOut_93 (by decide) (fun c222 => ?_) (fun c222 => ?_)
                    · rw [if_pos c222] at hF
                      refine v_iinc (i := 2) (v := (l2 + 1)) dX7_layOut_120 rfl rfl (by decide) (nlT rfl) ?_
                      simp only [List.set_cons_zero, List.set_cons_succ]
                      refine v_goto 2 dX7_layOut_123 (by decide) ?_
                      refine V.weak (la2 := [some (.ref 2), some (.int l1), some (.int (l2 + 1)), none, none]) (by simp [wk]) ?_
                      exact (s_X7_layOut_IH_2) _ _ _ _ hF hG
                    · rw [if_neg c222] at hF
                      refine v_aload_n (i := 0) dX7_layOut_96 rfl rfl ?_
                      refine g_X7_21 (q := 10) rfl sh_2 (by exact ltG hG (by decide)) (by exact rG hG r0_2_1) dX7_layOut_97 ?_
                      refine v_aload_n (i := 0) dX7_layOut_100 rfl rfl ?_
                      refine v_iload_n (i := 2) dX7_layOut_101 rfl rfl ?_
                      obtain ⟨q223, q223_e, hF⟩ := Option.bind_eq_some_iff.mp hF
                      refine c_X7_198 rfl sh_2 (by exact ltG hG (by decide)) (Nat.le_of_ble_eq_true rfl) dX7_layOut_102 (s_X7_cellOf _ q223_e hG) (fun r1 h1 hq => ?_)
                      obtain ⟨rfl, hq, hG⟩ := hq
                      replace hq := hq.symm
                      subst hq
                      show V _ _ _ _ (_ :: _) _ _
                      refine v_aload_n (i := 0) dX7_layOut_105 rfl rfl ?_
                      refine g_X7_49 (q := 16) rfl sh_2 (by exact ltG hG (by decide)) (by exact rG hG r0_2_10) dX7_layOut_106 ?_
                      refine v_iload_n (i := 2) dX7_layOut_109 rfl rfl ?_
                      obtain ⟨k225, hF⟩ := ck_some hF
                      refine v_iaload sh_16 (by exact ltG hG (by decide)) (ixO k225) dX7_layOut_110 ?_
                      refine v_aload_n (i := 0) dX7_layOut_111 rfl rfl ?_
                      refine g_X7_52 (q := 17) rfl sh_2 (by exact ltG hG (by decide)) (by exact rG hG r0_2_11) dX7_layOut_112 ?_
                      refine v_iload_n (i := 2) dX7_layOut_115 rfl rfl ?_
                      obtain ⟨k226, hF⟩ := ck_some hF
                      refine v_iaload sh_17 (by exact ltG hG (by decide)) (ixO k226) dX7_layOut_116 ?_
                      obtain ⟨q227, q227_e, hF⟩ := Option.bind_eq_some_iff.mp hF
                      refine c_X7_201 rfl sh_10 (by exact ltG hG (by decide)) (Nat.le_of_ble_eq_true rfl) dX7_layOut_117 (s_X8_soundIn _ q227_e hG (by first | assumption | exact sc_30 | exact sc_34 | exact sc_10 | exact fd_24 | exact fd_4 | exact lw_25 | exact lw_5 | exact bd_23 | exact bd_3 | exact ⟨by first | assumption | rfl, by first | decide | omega⟩)) (fun r1 h1 hq => ?_)
                      obtain ⟨rfl, hq, hG⟩ := hq
                      replace hq := hq.symm
                      subst hq
                      simp only [Option.toList, List.nil_append]
                      refine v_iinc (i := 2) (v := (l2 + 1)) dX7_layOut_120 rfl rfl (by decide) (nlT rfl) ?_
                      simp only [List.set_cons_zero, List.set_cons_succ]
                      refine v_goto 2 dX7_layOut_123 (by decide) ?_
                      refine V.weak (la2 := [some (.ref 2), some (.int l1), some (.int (l2 + 1)), none, none]) (by simp [wk]) ?_
                      exact (s_X7_layOut_IH_2) _ _ _ _ hF hG
                · rw [if_pos c211] at hF
                  refine v_aload_n (i := 0) dX7_layOut_58 rfl rfl ?_
                  refine v_bipush (v := 6) dX7_layOut_59 (by decide) ?_
                  refine v_iload_n (i := 1) dX7_layOut_61 rfl rfl ?_
                  obtain ⟨q229, q229_e, hF⟩ := Option.bind_eq_some_iff.mp hF
                  refine c_X7_141 rfl sh_2 (by exact ltG hG (by decide)) (Nat.le_of_ble_eq_true rfl) dX7_layOut_62 (s_X7_blame _ q229_e hG) (fun r1 h1 hq => ?_)
                  obtain ⟨rfl, hq, hG⟩ := hq
                  replace hq := hq.symm
                  subst hq
                  simp only [Option.toList, List.nil_append]
                  refine v_goto 91 dX7_layOut_65 (by decide) ?_
                  refine v_iload (i := 4) dX7_layOut_91 rfl ?_
                  refine v_if_eq 120 dX7_layOut_93 (by decide) (fun c231 => ?_) (fun c231 => ?_)
                  · rw [if_pos c231] at hF
                    refine v_iinc (i := 2) (v := (l2 + 1)) dX7_layOut_120 rfl rfl (by decide) (nlT rfl) ?_
                    simp only [List.set_cons_zero, List.set_cons_succ]
                    refine v_goto 2 dX7_layOut_123 (by decide) ?_
                    refine V.weak (la2 := [some (.ref 2), some (.int l1), some (.int (l2 + 1)), none, none]) (by simp [wk]) ?_
                    exact (s_X7_layOut_IH_2) _ _ _ _ hF hG
                  · rw [if_neg c231] at hF
                    refine v_aload_n (i := 0) dX7_layOut_96 rfl rfl ?_
                    refine g_X7_21 (q := 10) rfl sh_2 (by exact ltG hG (by decide)) (by exact rG hG r0_2_1) dX7_layOut_97 ?_
                    refine v_aload_n (i := 0) dX7_layOut_100 rfl rfl ?_
                    refine v_iload_n (i := 2) dX7_layOut_101 rfl rfl ?_
                    obtain ⟨q232, q232_e, hF⟩ := Option.bind_eq_some_iff.mp hF
                    refine c_X7_198 rfl sh_2 (by exact ltG hG (by decide)) (Nat.le_of_ble_eq_true rfl) dX7_layOut_102 (s_X7_cellOf _ q232_e hG) (fun r1 h1 hq => ?_)
                    obtain ⟨rfl, hq, hG⟩ := hq
                    replace hq := hq.symm
                    subst hq
                    show V _ _ _ _ (_ :: _) _ _
                    refine v_aload_n (i := 0) dX7_layOut_105 rfl rfl ?_
                    refine g_X7_49 (q := 16) rfl sh_2 (by exact ltG hG (by decide)) (by exact rG hG r0_2_10) dX7_layOut_106 ?_
                    refine v_iload_n (i := 2) dX7_layOut_109 rfl rfl ?_
                    obtain ⟨k234, hF⟩ := ck_some hF
                    refine v_iaload sh_16 (by exact ltG hG (by decide)) (ixO k234) dX7_layOut_110 ?_
                    refine v_aload_n (i := 0) dX7_layOut_111 rfl rfl ?_
                    refine g_X7_52 (q := 17) rfl sh_2 (by exact ltG hG (by decide)) (by exact rG hG r0_2_11) dX7_layOut_112 ?_
                    refine v_iload_n (i := 2) dX7_layOut_115 rfl rfl ?_
                    obtain ⟨k235, hF⟩ := ck_some hF
                    refine v_iaload sh_17 (by exact ltG hG (by decide)) (ixO k235) dX7_layOut_116 ?_
                    obtain ⟨q236, q236_e, hF⟩ := Option.bind_eq_some_iff.mp hF
                    refine c_X7_201 rfl sh_10 (by exact ltG hG (by decide)) (Nat.le_of_ble_eq_true rfl) dX7_layOut_117 (s_X8_soundIn _ q236_e hG (by first | assumption | exact sc_30 | exact sc_34 | exact sc_10 | exact fd_24 | exact fd_4 | exact lw_25 | exact lw_5 | exact bd_23 | exact bd_3 | exact ⟨by first | assumption | rfl, by first | decide | omega⟩)) (fun r1 h1 hq => ?_)
                    obtain ⟨rfl, hq, hG⟩ := hq
                    replace hq := hq.symm
                    subst hq
                    simp only [Option.toList, List.nil_append]
                    refine v_iinc (i := 2) (v := (l2 + 1)) dX7_layOut_120 rfl rfl (by decide) (nlT rfl) ?_
                    simp only [List.set_cons_zero, List.set_cons_succ]
                    refine v_goto 2 dX7_layOut_123 (by decide) ?_
                    refine V.weak (la2 := [some (.ref 2), some (.int l1), some (.int (l2 + 1)), none, none]) (by simp [wk]) ?_
                    exact (s_X7_layOut_IH_2) _ _ _ _ hF hG
          · rw [if_neg c160] at hF
            refine v_iconst (v := 1) dX7_layOut_34 (by decide) ?_
            refine v_goto 39 dX7_layOut_35 (by decide) ?_
            refine v_istore (i := 4) dX7_layOut_39 (by decide) (nlT rfl) ?_
            simp only [List.set_cons_zero, List.set_cons_succ]
            refine v_iload_n (i := 3) dX7_layOut_41 rfl rfl ?_
            refine v_if_ne 50 dX7_layOut_42 (by decide) (fun c238 => ?_) (fun c238 => ?_)
            · rw [if_neg c238] at hF
              refine v_aload_n (i := 0) dX7_layOut_50 rfl rfl ?_
              refine v_iload_n (i := 2) dX7_layOut_51 rfl rfl ?_
              obtain ⟨q239, q239_e, hF⟩ := Option.bind_eq_some_iff.mp hF
              refine c_X7_192 rfl sh_2 (by exact ltG hG (by decide)) (Nat.le_of_ble_eq_true rfl) dX7_layOut_52 (s_X7_onLawn _ q239_e hG) (fun r1 h1 hq => ?_)
              obtain ⟨rfl, hq, hG⟩ := hq
              replace hq := hq.symm
              subst hq
              show V _ _ _ _ (_ :: _) _ _
              refine v_if_ne 68 dX7_layOut_55 (by decide) (fun c241 => ?_) (fun c241 => ?_)
              · rw [if_neg c241] at hF
                refine v_iload_n (i := 3) dX7_layOut_68 rfl rfl ?_
                refine v_if_eq 91 dX7_layOut_69 (by decide) (fun c242 => ?_) (fun c242 => ?_)
                · rw [if_pos c242] at hF
                  refine v_iload (i := 4) dX7_layOut_91 rfl ?_
                  refine v_if_eq 120 dX7_layOut_93 (by decide) (fun c243 => ?_) (fun c243 => ?_)
                  · rw [if_pos c243] at hF
                    refine v_iinc (i := 2) (v := (l2 + 1)) dX7_layOut_120 rfl rfl (by decide) (nlT rfl) ?_
                    simp only [List.set_cons_zero, List.set_cons_succ]
                    refine v_goto 2 dX7_layOut_123 (by decide) ?_
                    refine V.weak (la2 := [some (.ref 2), some (.int l1), some (.int (l2 + 1)), none, none]) (by simp [wk]) ?_
                    exact (s_X7_layOut_IH_2) _ _ _ _ hF hG
                  · rw [if_neg c243] at hF
                    refine v_aload_n (i := 0) dX7_layOut_96 rfl rfl ?_
                    refine g_X7_21 (q := 10) rfl sh_2 (by exact ltG hG (by decide)) (by exact rG hG r0_2_1) dX7_layOut_97 ?_
                    refine v_aload_n (i := 0) dX7_layOut_100 rfl rfl ?_
                    refine v_iload_n (i := 2) dX7_layOut_101 rfl rfl ?_
                    obtain ⟨q244, q244_e, hF⟩ := Option.bind_eq_some_iff.mp hF
                    refine c_X7_198 rfl sh_2 (by exact ltG hG (by decide)) (Nat.le_of_ble_eq_true rfl) dX7_layOut_102 (s_X7_cellOf _ q244_e hG) (fun r1 h1 hq => ?_)
                    obtain ⟨rfl, hq, hG⟩ := hq
                    replace hq := hq.symm
                    subst hq
                    show V _ _ _ _ (_ :: _) _ _
                    refine v_aload_n (i := 0) dX7_layOut_105 rfl rfl ?_
                    refine g_X7_49 (q := 16) rfl sh_2 (by exact ltG hG (by decide)) (by exact rG hG r0_2_10) dX7_layOut_106 ?_
                    refine v_iload_n (i := 2) dX7_layOut_109 rfl rfl ?_
                    obtain ⟨k246, hF⟩ := ck_some hF
                    refine v_iaload sh_16 (by exact ltG hG (by decide)) (ixO k246) dX7_layOut_110 ?_
                    refine v_aload_n (i := 0) dX7_layOut_111 rfl rfl ?_
                    refine g_X7_52 (q := 17) rfl sh_2 (by exact ltG hG (by decide)) (by exact rG hG r0_2_11) dX7_layOut_112 ?_
                    refine v_iload_n (i := 2) dX7_layOut_115 rfl rfl ?_
                    obtain ⟨k247, hF⟩ := ck_some hF
                    refine v_iaload sh_17 (by exact ltG hG (by decide)) (ixO k247) dX7_layOut_116 ?_
                    obtain ⟨q248, q248_e, hF⟩ := Option.bind_eq_some_iff.mp hF
                    refine c_X7_201 rfl sh_10 (by exact ltG hG (by decide)) (Nat.le_of_ble_eq_true rfl) dX7_layOut_117 (s_X8_soundIn _ q248_e hG (by first | assumption | exact sc_30 | exact sc_34 | exact sc_10 | exact fd_24 | exact fd_4 | exact lw_25 | exact lw_5 | exact bd_23 | exact bd_3 | exact ⟨by first | assumption | rfl, by first | decide | omega⟩)) (fun r1 h1 hq => ?_)
                    obtain ⟨rfl, hq, hG⟩ := hq
                    replace hq := hq.symm
                    subst hq
                    simp only [Option.toList, List.nil_append]
                    refine v_iinc (i := 2) (v := (l2 + 1)) dX7_layOut_120 rfl rfl (by decide) (nlT rfl) ?_
                    simp only [List.set_cons_zero, List.set_cons_succ]
                    refine v_goto 2 dX7_layOut_123 (by decide) ?_
                    refine V.weak (la2 := [some (.ref 2), some (.int l1), some (.int (l2 + 1)), none, none]) (by simp [wk]) ?_
                    exact (s_X7_layOut_IH_2) _ _ _ _ hF hG
                · rw [if_neg c242] at hF
                  refine v_aload_n (i := 0) dX7_layOut_72 rfl rfl ?_
                  refine g_X7_21 (q := 10) rfl sh_2 (by exact ltG hG (by decide)) (by exact rG hG r0_2_1) dX7_layOut_73 ?_
                  refine v_dup dX7_layOut_76 rfl ?_
                  refine g_X7_195 rfl sh_10 (by exact ltG hG (by decide)) dX7_layOut_77 ?_
                  refine v_iconst (v := 1) dX7_layOut_80 (by decide) ?_
                  refine v_aload_n (i := 0) dX7_layOut_81 rfl rfl ?_
                  refine v_iload_n (i := 2) dX7_layOut_82 rfl rfl ?_
                  obtain ⟨q250, q250_e, hF⟩ := Option.bind_eq_some_iff.mp hF
                  refine c_X7_198 rfl sh_2 (by exact ltG hG (by decide)) (Nat.le_of_ble_eq_true rfl) dX7_layOut_83 (s_X7_cellOf _ q250_e hG) (fun r1 h1 hq => ?_)
                  obtain ⟨rfl, hq, hG⟩ := hq
                  replace hq := hq.symm
                  subst hq
                  show V _ _ _ _ (_ :: _) _ _
                  refine v_ishl dX7_layOut_86 ?_
                  refine v_ior dX7_layOut_87 ?_
                  refine p_X7_195 rfl sh_10 (by exact ltG hG (by decide)) dX7_layOut_88 ?_
                  refine v_iload (i := 4) dX7_layOut_91 rfl ?_
                  refine v_if_eq 120 dX7_layOut_93 (by decide) (fun c252 => ?_) (fun c252 => ?_)
                  · rw [if_pos c252] at hF
                    refine v_iinc (i := 2) (v := (l2 + 1)) dX7_layOut_120 rfl rfl (by decide) (nlT rfl) ?_
                    simp only [List.set_cons_zero, List.set_cons_succ]
                    refine v_goto 2 dX7_layOut_123 (by decide) ?_
                    refine V.weak (la2 := [some (.ref 2), some (.int l1), some (.int (l2 + 1)), none, none]) (by simp [wk]) ?_
                    exact (s_X7_layOut_IH_2) _ _ _ _ hF hG
                  · rw [if_neg c252] at hF
                    refine v_aload_n (i := 0) dX7_layOut_96 rfl rfl ?_
                    refine g_X7_21 (q := 10) rfl sh_2 (by exact ltG hG (by decide)) (by exact rG hG r0_2_1) dX7_layOut_97 ?_
                    refine v_aload_n (i := 0) dX7_layOut_100 rfl rfl ?_
                    refine v_iload_n (i := 2) dX7_layOut_101 rfl rfl ?_
                    obtain ⟨q253, q253_e, hF⟩ := Option.bind_eq_some_iff.mp hF
                    refine c_X7_198 rfl sh_2 (by exact ltG hG (by decide)) (Nat.le_of_ble_eq_true rfl) dX7_layOut_102 (s_X7_cellOf _ q253_e hG) (fun r1 h1 hq => ?_)
                    obtain ⟨rfl, hq, hG⟩ := hq
                    replace hq := hq.symm
                    subst hq
                    show V _ _ _ _ (_ :: _) _ _
                    refine v_aload_n (i := 0) dX7_layOut_105 rfl rfl ?_
                    refine g_X7_49 (q := 16) rfl sh_2 (by exact ltG hG (by decide)) (by exact rG hG r0_2_10) dX7_layOut_106 ?_
                    refine v_iload_n (i := 2) dX7_layOut_109 rfl rfl ?_
                    obtain ⟨k255, hF⟩ := ck_some hF
                    refine v_iaload sh_16 (by exact ltG hG (by decide)) (ixO k255) dX7_layOut_110 ?_
                    refine v_aload_n (i := 0) dX7_layOut_111 rfl rfl ?_
                    refine g_X7_52 (q := 17) rfl sh_2 (by exact ltG hG (by decide)) (by exact rG hG r0_2_11) dX7_layOut_112 ?_
                    refine v_iload_n (i := 2) dX7_layOut_115 rfl rfl ?_
                    obtain ⟨k256, hF⟩ := ck_some hF
                    refine v_iaload sh_17 (by exact ltG hG (by decide)) (ixO k256) dX7_layOut_116 ?_
                    obtain ⟨q257, q257_e, hF⟩ := Option.bind_eq_some_iff.mp hF
                    refine c_X7_201 rfl sh_10 (by exact ltG hG (by decide)) (Nat.le_of_ble_eq_true rfl) dX7_layOut_117 (s_X8_soundIn _ q257_e hG (by first | assumption | exact sc_30 | exact sc_34 | exact sc_10 | exact fd_24 | exact fd_4 | exact lw_25 | exact lw_5 | exact bd_23 | exact bd_3 | exact ⟨by first | assumption | rfl, by first | decide | omega⟩)) (fun r1 h1 hq => ?_)
                    obtain ⟨rfl, hq, hG⟩ := hq
                    replace hq := hq.symm
                    subst hq
                    simp only [Option.toList, List.nil_append]
                    refine v_iinc (i := 2) (v := (l2 + 1)) dX7_layOut_120 rfl rfl (by decide) (nlT rfl) ?_
                    simp only [List.set_cons_zero, List.set_cons_succ]
                    refine v_goto 2 dX7_layOut_123 (by decide) ?_
                    refine V.weak (la2 := [some (.ref 2), some (.int l1), some (.int (l2 + 1)), none, none]) (by simp [wk]) ?_
                    exact (s_X7_layOut_IH_2) _ _ _ _ hF hG
              · rw [if_pos c241] at hF
                refine v_aload_n (i := 0) dX7_layOut_58 rfl rfl ?_
                refine v_bipush (v := 6) dX7_layOut_59 (by decide) ?_
                refine v_iload_n (i := 1) dX7_layOut_61 rfl rfl ?_
                obtain ⟨q259, q259_e, hF⟩ := Option.bind_eq_some_iff.mp hF
                refine c_X7_141 rfl sh_2 (by exact ltG hG (by decide)) (Nat.le_of_ble_eq_true rfl) dX7_layOut_62 (s_X7_blame _ q259_e hG) (fun r1 h1 hq => ?_)
                obtain ⟨rfl, hq, hG⟩ := hq
                replace hq := hq.symm
                subst hq
                simp only [Option.toList, List.nil_append]
                refine v_goto 91 dX7_layOut_65 (by decide) ?_
                refine v_iload (i := 4) dX7_layOut_91 rfl ?_
                refine v_if_eq 120 dX7_layOut_93 (by decide) (fun c261 => ?_) (fun c261 => ?_)
                · rw [if_pos c261] at hF
                  refine v_iinc (i := 2) (v := (l2 + 1)) dX7_layOut_120 rfl rfl (by decide) (nlT rfl) ?_
                  simp only [List.set_cons_zero, List.set_cons_succ]
                  refine v_goto 2 dX7_layOut_123 (by decide) ?_
                  refine V.weak (la2 := [some (.ref 2), some (.int l1), some (.int (l2 + 1)), none, none]) (by simp [wk]) ?_
                  exact (s_X7_layOut_IH_2) _ _ _ _ hF hG
                · rw [if_neg c261] at hF
                  refine v_aload_n (i := 0) dX7_layOut_96 rfl rfl ?_
                  refine g_X7_21 (q := 10) rfl sh_2 (by exact ltG hG (by decide)) (by exact rG hG r0_2_1) dX7_layOut_97 ?_
                  refine v_aload_n (i := 0) dX7_layOut_100 rfl rfl ?_
                  refine v_iload_n (i := 2) dX7_layOut_101 rfl rfl ?_
                  obtain ⟨q262, q262_e, hF⟩ := Option.bind_eq_some_iff.mp hF
                  refine c_X7_198 rfl sh_2 (by exact ltG hG (by decide)) (Nat.le_of_ble_eq_true rfl) dX7_layOut_102 (s_X7_cellOf _ q262_e hG) (fun r1 h1 hq => ?_)
                  obtain ⟨rfl, hq, hG⟩ := hq
                  replace hq := hq.symm
                  subst hq
                  show V _ _ _ _ (_ :: _) _ _
                  refine v_aload_n (i := 0) dX7_layOut_105 rfl rfl ?_
                  refine g_X7_49 (q := 16) rfl sh_2 (by exact ltG hG (by decide)) (by exact rG hG r0_2_10) dX7_layOut_106 ?_
                  refine v_iload_n (i := 2) dX7_layOut_109 rfl rfl ?_
                  obtain ⟨k264, hF⟩ := ck_some hF
                  refine v_iaload sh_16 (by exact ltG hG (by decide)) (ixO k264) dX7_layOut_110 ?_
                  refine v_aload_n (i := 0) dX7_layOut_111 rfl rfl ?_
                  refine g_X7_52 (q := 17) rfl sh_2 (by exact ltG hG (by decide)) (by exact rG hG r0_2_11) dX7_layOut_112 ?_
                  refine v_iload_n (i := 2) dX7_layOut_115 rfl rfl ?_
                  obtain ⟨k265, hF⟩ := ck_some hF
                  refine v_iaload sh_17 (by exact ltG hG (by decide)) (ixO k265) dX7_layOut_116 ?_
                  obtain ⟨q266, q266_e, hF⟩ := Option.bind_eq_some_iff.mp hF
                  refine c_X7_201 rfl sh_10 (by exact ltG hG (by decide)) (Nat.le_of_ble_eq_true rfl) dX7_layOut_117 (s_X8_soundIn _ q266_e hG (by first | assumption | exact sc_30 | exact sc_34 | exact sc_10 | exact fd_24 | exact fd_4 | exact lw_25 | exact lw_5 | exact bd_23 | exact bd_3 | exact ⟨by first | assumption | rfl, by first | decide | omega⟩)) (fun r1 h1 hq => ?_)
                  obtain ⟨rfl, hq, hG⟩ := hq
                  replace hq := hq.symm
                  subst hq
                  simp only [Option.toList, List.nil_append]
                  refine v_iinc (i := 2) (v := (l2 + 1)) dX7_layOut_120 rfl rfl (by decide) (nlT rfl) ?_
                  simp only [List.set_cons_zero, List.set_cons_succ]
                  refine v_goto 2 dX7_layOut_123 (by decide) ?_
                  refine V.weak (la2 := [some (.ref 2), some (.int l1), some (.int (l2 + 1)), none, none]) (by simp [wk]) ?_
                  exact (s_X7_layOut_IH_2) _ _ _ _ hF hG
            · rw [if_pos c238] at hF
              refine v_iload (i := 4) dX7_layOut_45 rfl ?_
              refine v_if_eq 68 dX7_layOut_47 (by decide) (fun c268 => ?_) (fun c268 => ?_)
              · rw [if_pos c268] at hF
                refine v_iload_n (i := 3) dX7_layOut_68 rfl rfl ?_
                refine v_if_eq 91 dX7_layOut_69 (by decide) (fun c269 => ?_) (fun c269 => ?_)
                · rw [if_pos c269] at hF
                  refine v_iload (i := 4) dX7_layOut_91 rfl ?_
                  refine v_if_eq 120 dX7_layOut_93 (by decide) (fun c270 => ?_) (fun c270 => ?_)
                  · rw [if_pos c270] at hF
                    refine v_iinc (i := 2) (v := (l2 + 1)) dX7_layOut_120 rfl rfl (by decide) (nlT rfl) ?_
                    simp only [List.set_cons_zero, List.set_cons_succ]
                    refine v_goto 2 dX7_layOut_123 (by decide) ?_
                    refine V.weak (la2 := [some (.ref 2), some (.int l1), some (.int (l2 + 1)), none, none]) (by simp [wk]) ?_
                    exact (s_X7_layOut_IH_2) _ _ _ _ hF hG
                  · rw [if_neg c270] at hF
                    refine v_aload_n (i := 0) dX7_layOut_96 rfl rfl ?_
                    refine g_X7_21 (q := 10) rfl sh_2 (by exact ltG hG (by decide)) (by exact rG hG r0_2_1) dX7_layOut_97 ?_
                    refine v_aload_n (i := 0) dX7_layOut_100 rfl rfl ?_
                    refine v_iload_n (i := 2) dX7_layOut_101 rfl rfl ?_
                    obtain ⟨q271, q271_e, hF⟩ := Option.bind_eq_some_iff.mp hF
                    refine c_X7_198 rfl sh_2 (by exact ltG hG (by decide)) (Nat.le_of_ble_eq_true rfl) dX7_layOut_102 (s_X7_cellOf _ q271_e hG) (fun r1 h1 hq => ?_)
                    obtain ⟨rfl, hq, hG⟩ := hq
                    replace hq := hq.symm
                    subst hq
                    show V _ _ _ _ (_ :: _) _ _
                    refine v_aload_n (i := 0) dX7_layOut_105 rfl rfl ?_
                    refine g_X7_49 (q := 16) rfl sh_2 (by exact ltG hG (by decide)) (by exact rG hG r0_2_10) dX7_layOut_106 ?_
                    refine v_iload_n (i := 2) dX7_layOut_109 rfl rfl ?_
                    obtain ⟨k273, hF⟩ := ck_some hF
                    refine v_iaload sh_16 (by exact ltG hG (by decide)) (ixO k273) dX7_layOut_110 ?_
                    refine v_aload_n (i := 0) dX7_layOut_111 rfl rfl ?_
                    refine g_X7_52 (q := 17) rfl sh_2 (by exact ltG hG (by decide)) (by exact rG hG r0_2_11) dX7_layOut_112 ?_
                    refine v_iload_n (i := 2) dX7_layOut_115 rfl rfl ?_
                    obtain ⟨k274, hF⟩ := ck_some hF
                    refine v_iaload sh_17 (by exact ltG hG (by decide)) (ixO k274) dX7_layOut_116 ?_
                    obtain ⟨q275, q275_e, hF⟩ := Option.bind_eq_some_iff.mp hF
                    refine c_X7_201 rfl sh_10 (by exact ltG hG (by decide)) (Nat.le_of_ble_eq_true rfl) dX7_layOut_117 (s_X8_soundIn _ q275_e hG (by first | assumption | exact sc_30 | exact sc_34 | exact sc_10 | exact fd_24 | exact fd_4 | exact lw_25 | exact lw_5 | exact bd_23 | exact bd_3 | exact ⟨by first | assumption | rfl, by first | decide | omega⟩)) (fun r1 h1 hq => ?_)
                    obtain ⟨rfl, hq, hG⟩ := hq
                    replace hq := hq.symm
                    subst hq
                    simp only [Option.toList, List.nil_append]
                    refine v_iinc (i := 2) (v := (l2 + 1)) dX7_layOut_120 rfl rfl (by decide) (nlT rfl) ?_
                    simp only [List.set_cons_zero, List.set_cons_succ]
                    refine v_goto 2 dX7_layOut_123 (by decide) ?_
                    refine V.weak (la2 := [some (.ref 2), some (.int l1), some (.int (l2 + 1)), none, none]) (by simp [wk]) ?_
                    exact (s_X7_layOut_IH_2) _ _ _ _ hF hG
                · rw [if_neg c269] at hF
                  refine v_aload_n (i := 0) dX7_layOut_72 rfl rfl ?_
                  refine g_X7_21 (q := 10) rfl sh_2 (by exact ltG hG (by decide)) (by exact rG hG r0_2_1) dX7_layOut_73 ?_
                  refine v_dup dX7_layOut_76 rfl ?_
                  refine g_X7_195 rfl sh_10 (by exact ltG hG (by decide)) dX7_layOut_77 ?_
                  refine v_iconst (v := 1) dX7_layOut_80 (by decide) ?_
                  refine v_aload_n (i := 0) dX7_layOut_81 rfl rfl ?_
                  refine v_iload_n (i := 2) dX7_layOut_82 rfl rfl ?_
                  obtain ⟨q277, q277_e, hF⟩ := Option.bind_eq_some_iff.mp hF
                  refine c_X7_198 rfl sh_2 (by exact ltG hG (by decide)) (Nat.le_of_ble_eq_true rfl) dX7_layOut_83 (s_X7_cellOf _ q277_e hG) (fun r1 h1 hq => ?_)
                  obtain ⟨rfl, hq, hG⟩ := hq
                  replace hq := hq.symm
                  subst hq
                  show V _ _ _ _ (_ :: _) _ _
                  refine v_ishl dX7_layOut_86 ?_
                  refine v_ior dX7_layOut_87 ?_
                  refine p_X7_195 rfl sh_10 (by exact ltG hG (by decide)) dX7_layOut_88 ?_
                  refine v_iload (i := 4) dX7_layOut_91 rfl ?_
                  refine v_if_eq 120 dX7_layOut_93 (by decide) (fun c279 => ?_) (fun c279 => ?_)
                  · rw [if_pos c279] at hF
                    refine v_iinc (i := 2) (v := (l2 + 1)) dX7_layOut_120 rfl rfl (by decide) (nlT rfl) ?_
                    simp only [List.set_cons_zero, List.set_cons_succ]
                    refine v_goto 2 dX7_layOut_123 (by decide) ?_
                    refine V.weak (la2 := [some (.ref 2), some (.int l1), some (.int (l2 + 1)), none, none]) (by simp [wk]) ?_
                    exact (s_X7_layOut_IH_2) _ _ _ _ hF hG
                  · rw [if_neg c279] at hF
                    refine v_aload_n (i := 0) dX7_layOut_96 rfl rfl ?_
                    refine g_X7_21 (q := 10) rfl sh_2 (by exact ltG hG (by decide)) (by exact rG hG r0_2_1) dX7_layOut_97 ?_
                    refine v_aload_n (i := 0) dX7_layOut_100 rfl rfl ?_
                    refine v_iload_n (i := 2) dX7_layOut_101 rfl rfl ?_
                    obtain ⟨q280, q280_e, hF⟩ := Option.bind_eq_some_iff.mp hF
                    refine c_X7_198 rfl sh_2 (by exact ltG hG (by decide)) (Nat.le_of_ble_eq_true rfl) dX7_layOut_102 (s_X7_cellOf _ q280_e hG) (fun r1 h1 hq => ?_)
                    obtain ⟨rfl, hq, hG⟩ := hq
                    replace hq := hq.symm
                    subst hq
                    show V _ _ _ _ (_ :: _) _ _
                    refine v_aload_n (i := 0) dX7_layOut_105 rfl rfl ?_
                    refine g_X7_49 (q := 16) rfl sh_2 (by exact ltG hG (by decide)) (by exact rG hG r0_2_10) dX7_layOut_106 ?_
                    refine v_iload_n (i := 2) dX7_layOut_109 rfl rfl ?_
                    obtain ⟨k282, hF⟩ := ck_some hF
                    refine v_iaload sh_16 (by exact ltG hG (by decide)) (ixO k282) dX7_layOut_110 ?_
                    refine v_aload_n (i := 0) dX7_layOut_111 rfl rfl ?_
                    refine g_X7_52 (q := 17) rfl sh_2 (by exact ltG hG (by decide)) (by exact rG hG r0_2_11) dX7_layOut_112 ?_
                    refine v_iload_n (i := 2) dX7_layOut_115 rfl rfl ?_
                    obtain ⟨k283, hF⟩ := ck_some hF
                    refine v_iaload sh_17 (by exact ltG hG (by decide)) (ixO k283) dX7_layOut_116 ?_
                    obtain ⟨q284, q284_e, hF⟩ := Option.bind_eq_some_iff.mp hF
                    refine c_X7_201 rfl sh_10 (by exact ltG hG (by decide)) (Nat.le_of_ble_eq_true rfl) dX7_layOut_117 (s_X8_soundIn _ q284_e hG (by first | assumption | exact sc_30 | exact sc_34 | exact sc_10 | exact fd_24 | exact fd_4 | exact lw_25 | exact lw_5 | exact bd_23 | exact bd_3 | exact ⟨by first | assumption | rfl, by first | decide | omega⟩)) (fun r1 h1 hq => ?_)
                    obtain ⟨rfl, hq, hG⟩ := hq
                    replace hq := hq.symm
                    subst hq
                    simp only [Option.toList, List.nil_append]
                    refine v_iinc (i := 2) (v := (l2 + 1)) dX7_layOut_120 rfl rfl (by decide) (nlT rfl) ?_
                    simp only [List.set_cons_zero, List.set_cons_succ]
                    refine v_goto 2 dX7_layOut_123 (by decide) ?_
                    refine V.weak (la2 := [some (.ref 2), some (.int l1), some (.int (l2 + 1)), none, none]) (by simp [wk]) ?_
                    exact (s_X7_layOut_IH_2) _ _ _ _ hF hG
              · rw [if_neg c268] at hF
                refine v_aload_n (i := 0) dX7_layOut_50 rfl rfl ?_
                refine v_iload_n (i := 2) dX7_layOut_51 rfl rfl ?_
                obtain ⟨q286, q286_e, hF⟩ := Option.bind_eq_some_iff.mp hF
                refine c_X7_192 rfl sh_2 (by exact ltG hG (by decide)) (Nat.le_of_ble_eq_true rfl) dX7_layOut_52 (s_X7_onLawn _ q286_e hG) (fun r1 h1 hq => ?_)
                obtain ⟨rfl, hq, hG⟩ := hq
                replace hq := hq.symm
                subst hq
                show V _ _ _ _ (_ :: _) _ _
                refine v_if_ne 68 dX7_layOut_55 (by decide) (fun c288 => ?_) (fun c288 => ?_)
                · rw [if_neg c288] at hF
                  refine v_iload_n (i := 3) dX7_layOut_68 rfl rfl ?_
                  refine v_if_eq 91 dX7_layOut_69 (by decide) (fun c289 => ?_) (fun c289 => ?_)
                  · rw [if_pos c289] at hF
                    refine v_iload (i := 4) dX7_layOut_91 rfl ?_
                    refine v_if_eq 120 dX7_layOut_93 (by decide) (fun c290 => ?_) (fun c290 => ?_)
                    · rw [if_pos c290] at hF
                      refine v_iinc (i := 2) (v := (l2 + 1)) dX7_layOut_120 rfl rfl (by decide) (nlT rfl) ?_
                      simp only [List.set_cons_zero, List.set_cons_succ]
                      refine v_goto 2 dX7_layOut_123 (by decide) ?_
                      refine V.weak (la2 := [some (.ref 2), some (.int l1), some (.int (l2 + 1)), none, none]) (by simp [wk]) ?_
                      exact (s_X7_layOut_IH_2) _ _ _ _ hF hG
                    · rw [if_neg c290] at hF
                      refine v_aload_n (i := 0) dX7_layOut_96 rfl rfl ?_
                      refine g_X7_21 (q := 10) rfl sh_2 (by exact ltG hG (by decide)) (by exact rG hG r0_2_1) dX7_layOut_97 ?_
                      refine v_aload_n (i := 0) dX7_layOut_100 rfl rfl ?_
                      refine v_iload_n (i := 2) dX7_layOut_101 rfl rfl ?_
                      obtain ⟨q291, q291_e, hF⟩ := Option.bind_eq_some_iff.mp hF
                      refine c_X7_198 rfl sh_2 (by exact ltG hG (by decide)) (Nat.le_of_ble_eq_true rfl) dX7_layOut_102 (s_X7_cellOf _ q291_e hG) (fun r1 h1 hq => ?_)
                      obtain ⟨rfl, hq, hG⟩ := hq
                      replace hq := hq.symm
                      subst hq
                      show V _ _ _ _ (_ :: _) _ _
                      refine v_aload_n (i := 0) dX7_layOut_105 rfl rfl ?_
                      refine g_X7_49 (q := 16) rfl sh_2 (by exact ltG hG (by decide)) (by exact rG hG r0_2_10) dX7_layOut_106 ?_
                      refine v_iload_n (i := 2) dX7_layOut_109 rfl rfl ?_
                      obtain ⟨k293, hF⟩ := ck_some hF
                      refine v_iaload sh_16 (by exact ltG hG (by decide)) (ixO k293) dX7_layOut_110 ?_
                      refine v_aload_n (i := 0) dX7_layOut_111 rfl rfl ?_
                      refine g_X7_52 (q := 17) rfl sh_2 (by exact ltG hG (by decide)) (by exact rG hG r0_2_11) dX7_layOut_112 ?_
                      refine v_iload_n (i := 2) dX7_layOut_115 rfl rfl ?_
                      obtain ⟨k294, hF⟩ := ck_some hF
                      refine v_iaload sh_17 (by exact ltG hG (by decide)) (ixO k294) dX7_layOut_116 ?_
                      obtain ⟨q295, q295_e, hF⟩ := Option.bind_eq_some_iff.mp hF
                      refine c_X7_201 rfl sh_10 (by exact ltG hG (by decide)) (Nat.le_of_ble_eq_true rfl) dX7_layOut_117 (s_X8_soundIn _ q295_e hG (by first | assumption | exact sc_30 | exact sc_34 | exact sc_10 | exact fd_24 | exact fd_4 | exact lw_25 | exact lw_5 | exact bd_23 | exact bd_3 | exact ⟨by first | assumption | rfl, by first | decide | omega⟩)) (fun r1 h1 hq => ?_)
                      obtain ⟨rfl, hq, hG⟩ := hq
                      replace hq := hq.symm
                      subst hq
                      simp only [Option.toList, List.nil_append]
                      refine v_iinc (i := 2) (v := (l2 + 1)) dX7_layOut_120 rfl rfl (by decide) (nlT rfl) ?_
                      simp only [List.set_cons_zero, List.set_cons_succ]
                      refine v_goto 2 dX7_layOut_123 (by decide) ?_
                      refine V.weak (la2 := [some (.ref 2), some (.int l1), some (.int (l2 + 1)), none, none]) (by simp [wk]) ?_
                      exact (s_X7_layOut_IH_2) _ _ _ _ hF hG
                  · rw [if_neg c289] at hF
                    refine v_aload_n (i := 0) dX7_layOut_72 rfl rfl ?_
                    refine g_X7_21 (q := 10) rfl sh_2 (by exact ltG hG (by decide)) (by exact rG hG r0_2_1) dX7_layOut_73 ?_
                    refine v_dup dX7_layOut_76 rfl ?_
                    refine g_X7_195 rfl sh_10 (by exact ltG hG (by decide)) dX7_layOut_77 ?_
                    refine v_iconst (v := 1) dX7_layOut_80 (by decide) ?_
                    refine v_aload_n (i := 0) dX7_layOut_81 rfl rfl ?_
                    refine v_iload_n (i := 2) dX7_layOut_82 rfl rfl ?_
                    obtain ⟨q297, q297_e, hF⟩ := Option.bind_eq_some_iff.mp hF
                    refine c_X7_198 rfl sh_2 (by exact ltG hG (by decide)) (Nat.le_of_ble_eq_true rfl) dX7_layOut_83 (s_X7_cellOf _ q297_e hG) (fun r1 h1 hq => ?_)
                    obtain ⟨rfl, hq, hG⟩ := hq
                    replace hq := hq.symm
                    subst hq
                    show V _ _ _ _ (_ :: _) _ _
                    refine v_ishl dX7_layOut_86 ?_
                    refine v_ior dX7_layOut_87 ?_
                    refine p_X7_195 rfl sh_10 (by exact ltG hG (by decide)) dX7_layOut_88 ?_
                    refine v_iload (i := 4) dX7_layOut_91 rfl ?_
                    refine v_if_eq 120 dX7_layOut_93 (by decide) (fun c299 => ?_) (fun c299 => ?_)
                    · rw [if_pos c299] at hF
                      refine v_iinc (i := 2) (v := (l2 + 1)) dX7_layOut_120 rfl rfl (by decide) (nlT rfl) ?_
                      simp only [List.set_cons_zero, List.set_cons_succ]
                      refine v_goto 2 dX7_layOut_123 (by decide) ?_
                      refine V.weak (la2 := [some (.ref 2), some (.int l1), some (.int (l2 + 1)), none, none]) (by simp [wk]) ?_
                      exact (s_X7_layOut_IH_2) _ _ _ _ hF hG
                    · rw [if_neg c299] at hF
                      refine v_aload_n (i := 0) dX7_layOut_96 rfl rfl ?_
                      refine g_X7_21 (q := 10) rfl sh_2 (by exact ltG hG (by decide)) (by exact rG hG r0_2_1) dX7_layOut_97 ?_
                      refine v_aload_n (i := 0) dX7_layOut_100 rfl rfl ?_
                      refine v_iload_n (i := 2) dX7_layOut_101 rfl rfl ?_
                      obtain ⟨q300, q300_e, hF⟩ := Option.bind_eq_some_iff.mp hF
                      refine c_X7_198 rfl sh_2 (by exact ltG hG (by decide)) (Nat.le_of_ble_eq_true rfl) dX7_layOut_102 (s_X7_cellOf _ q300_e hG) (fun r1 h1 hq => ?_)
                      obtain ⟨rfl, hq, hG⟩ := hq
                      replace hq := hq.symm
                      subst hq
                      show V _ _ _ _ (_ :: _) _ _
                      refine v_aload_n (i := 0) dX7_layOut_105 rfl rfl ?_
                      refine g_X7_49 (q := 16) rfl sh_2 (by exact ltG hG (by decide)) (by exact rG hG r0_2_10) dX7_layOut_106 ?_
                      refine v_iload_n (i := 2) dX7_layOut_109 rfl rfl ?_
                      obtain ⟨k302, hF⟩ := ck_some hF
                      refine v_iaload sh_16 (by exact ltG hG (by decide)) (ixO k302) dX7_layOut_110 ?_
                      refine v_aload_n (i := 0) dX7_layOut_111 rfl rfl ?_
                      refine g_X7_52 (q := 17) rfl sh_2 (by exact ltG hG (by decide)) (by exact rG hG r0_2_11) dX7_layOut_112 ?_
                      refine v_iload_n (i := 2) dX7_layOut_115 rfl rfl ?_
                      obtain ⟨k303, hF⟩ := ck_some hF
                      refine v_iaload sh_17 (by exact ltG hG (by decide)) (ixO k303) dX7_layOut_116 ?_
                      obtain ⟨q304, q304_e, hF⟩ := Option.bind_eq_some_iff.mp hF
                      refine c_X7_201 rfl sh_10 (by exact ltG hG (by decide)) (Nat.le_of_ble_eq_true rfl) dX7_layOut_117 (s_X8_soundIn _ q304_e hG (by first | assumption | exact sc_30 | exact sc_34 | exact sc_10 | exact fd_24 | exact fd_4 | exact lw_25 | exact lw_5 | exact bd_23 | exact bd_3 | exact ⟨by first | assumption | rfl, by first | decide | omega⟩)) (fun r1 h1 hq => ?_)
                      obtain ⟨rfl, hq, hG⟩ := hq
                      replace hq := hq.symm
                      subst hq
                      simp only [Option.toList, List.nil_append]
                      refine v_iinc (i := 2) (v := (l2 + 1)) dX7_layOut_120 rfl rfl (by decide) (nlT rfl) ?_
                      simp only [List.set_cons_zero, List.set_cons_succ]
                      refine v_goto 2 dX7_layOut_123 (by decide) ?_
                      refine V.weak (la2 := [some (.ref 2), some (.int l1), some (.int (l2 + 1)), none, none]) (by simp [wk]) ?_
                      exact (s_X7_layOut_IH_2) _ _ _ _ hF hG
                · rw [if_pos c288] at hF
                  refine v_aload_n (i := 0) dX7_layOut_58 rfl rfl ?_
                  refine v_bipush (v := 6) dX7_layOut_59 (by decide) ?_
                  refine v_iload_n (i := 1) dX7_layOut_61 rfl rfl ?_
                  obtain ⟨q306, q306_e, hF⟩ := Option.bind_eq_some_iff.mp hF
                  refine c_X7_141 rfl sh_2 (by exact ltG hG (by decide)) (Nat.le_of_ble_eq_true rfl) dX7_layOut_62 (s_X7_blame _ q306_e hG) (fun r1 h1 hq => ?_)
                  obtain ⟨rfl, hq, hG⟩ := hq
                  replace hq := hq.symm
                  subst hq
                  simp only [Option.toList, List.nil_append]
                  refine v_goto 91 dX7_layOut_65 (by decide) ?_
                  refine v_iload (i := 4) dX7_layOut_91 rfl ?_
                  refine v_if_eq 120 dX7_layOut_93 (by decide) (fun c308 => ?_) (fun c308 => ?_)
                  · rw [if_pos c308] at hF
                    refine v_iinc (i := 2) (v := (l2 + 1)) dX7_layOut_120 rfl rfl (by decide) (nlT rfl) ?_
                    simp only [List.set_cons_zero, List.set_cons_succ]
                    refine v_goto 2 dX7_layOut_123 (by decide) ?_
                    refine V.weak (la2 := [some (.ref 2), some (.int l1), some (.int (l2 + 1)), none, none]) (by simp [wk]) ?_
                    exact (s_X7_layOut_IH_2) _ _ _ _ hF hG
                  · rw [if_neg c308] at hF
                    refine v_aload_n (i := 0) dX7_layOut_96 rfl rfl ?_
                    refine g_X7_21 (q := 10) rfl sh_2 (by exact ltG hG (by decide)) (by exact rG hG r0_2_1) dX7_layOut_97 ?_
                    refine v_aload_n (i := 0) dX7_layOut_100 rfl rfl ?_
                    refine v_iload_n (i := 2) dX7_layOut_101 rfl rfl ?_
                    obtain ⟨q309, q309_e, hF⟩ := Option.bind_eq_some_iff.mp hF
                    refine c_X7_198 rfl sh_2 (by exact ltG hG (by decide)) (Nat.le_of_ble_eq_true rfl) dX7_layOut_102 (s_X7_cellOf _ q309_e hG) (fun r1 h1 hq => ?_)
                    obtain ⟨rfl, hq, hG⟩ := hq
                    replace hq := hq.symm
                    subst hq
                    show V _ _ _ _ (_ :: _) _ _
                    refine v_aload_n (i := 0) dX7_layOut_105 rfl rfl ?_
                    refine g_X7_49 (q := 16) rfl sh_2 (by exact ltG hG (by decide)) (by exact rG hG r0_2_10) dX7_layOut_106 ?_
                    refine v_iload_n (i := 2) dX7_layOut_109 rfl rfl ?_
                    obtain ⟨k311, hF⟩ := ck_some hF
                    refine v_iaload sh_16 (by exact ltG hG (by decide)) (ixO k311) dX7_layOut_110 ?_
                    refine v_aload_n (i := 0) dX7_layOut_111 rfl rfl ?_
                    refine g_X7_52 (q := 17) rfl sh_2 (by exact ltG hG (by decide)) (by exact rG hG r0_2_11) dX7_layOut_112 ?_
                    refine v_iload_n (i := 2) dX7_layOut_115 rfl rfl ?_
                    obtain ⟨k312, hF⟩ := ck_some hF
                    refine v_iaload sh_17 (by exact ltG hG (by decide)) (ixO k312) dX7_layOut_116 ?_
                    obtain ⟨q313, q313_e, hF⟩ := Option.bind_eq_some_iff.mp hF
                    refine c_X7_201 rfl sh_10 (by exact ltG hG (by decide)) (Nat.le_of_ble_eq_true rfl) dX7_layOut_117 (s_X8_soundIn _ q313_e hG (by first | assumption | exact sc_30 | exact sc_34 | exact sc_10 | exact fd_24 | exact fd_4 | exact lw_25 | exact lw_5 | exact bd_23 | exact bd_3 | exact ⟨by first | assumption | rfl, by first | decide | omega⟩)) (fun r1 h1 hq => ?_)
                    obtain ⟨rfl, hq, hG⟩ := hq
                    replace hq := hq.symm
                    subst hq
                    simp only [Option.toList, List.nil_append]
                    refine v_iinc (i := 2) (v := (l2 + 1)) dX7_layOut_120 rfl rfl (by decide) (nlT rfl) ?_
                    simp only [List.set_cons_zero, List.set_cons_succ]
                    refine v_goto 2 dX7_layOut_123 (by decide) ?_
                    refine V.weak (la2 := [some (.ref 2), some (.int l1), some (.int (l2 + 1)), none, none]) (by simp [wk]) ?_
                    exact (s_X7_layOut_IH_2) _ _ _ _ hF hG
    · intro l1 l2 h h' hF hG
      unfold W_X7_layOut at hF
      rw [if_neg (by decide)] at hF
      rw [if_pos rfl] at hF
      refine v_iload_n (i := 2) dX7_layOut_128 rfl rfl ?_
      refine v_aload_n (i := 0) dX7_layOut_129 rfl rfl ?_
      refine g_X7_12 (q := 3) rfl sh_2 (by exact ltG hG (by decide)) (by exact rG hG r0_2_0) dX7_layOut_130 ?_
      refine g_X7_165 rfl sh_3 (by exact ltG hG (by decide)) dX7_layOut_133 ?_
      refine v_icmp_ge 197 dX7_layOut_136 (by decide) (fun c315 => ?_) (fun c315 => ?_)
      · rw [if_pos c315] at hF
        refine v_return rfl dX7_layOut_197 ?_
        obtain rfl := Option.some.inj hF
        exact ⟨rfl, rfl, hG⟩
      · rw [if_neg c315] at hF
        refine v_iload_n (i := 2) dX7_layOut_139 rfl rfl ?_
        refine v_iconst (v := 5) dX7_layOut_140 (by decide) ?_
        refine v_icmp_ge 197 dX7_layOut_141 (by decide) (fun c316 => ?_) (fun c316 => ?_)
        · rw [if_pos c316] at hF
          refine v_return rfl dX7_layOut_197 ?_
          obtain rfl := Option.some.inj hF
          exact ⟨rfl, rfl, hG⟩
        · rw [if_neg c316] at hF
          refine v_aload_n (i := 0) dX7_layOut_144 rfl rfl ?_
          refine g_X7_45 (q := 15) rfl sh_2 (by exact ltG hG (by decide)) (by exact rG hG r0_2_9) dX7_layOut_145 ?_
          refine v_iload_n (i := 2) dX7_layOut_148 rfl rfl ?_
          obtain ⟨k317, hF⟩ := ck_some hF
          refine v_iaload sh_15 (by exact ltG hG (by decide)) (ixO k317) dX7_layOut_149 ?_
          refine v_istore_n (i := 3) dX7_layOut_150 rfl (by decide) (nlT rfl) ?_
          simp only [List.set_cons_zero, List.set_cons_succ]
          refine v_aload_n (i := 0) dX7_layOut_151 rfl rfl ?_
          refine v_iload_n (i := 3) dX7_layOut_152 rfl rfl ?_
          obtain ⟨q318, q318_e, hF⟩ := Option.bind_eq_some_iff.mp hF
          refine c_X7_192 rfl sh_2 (by exact ltG hG (by decide)) (Nat.le_of_ble_eq_true rfl) dX7_layOut_153 (s_X7_onLawn _ q318_e hG) (fun r1 h1 hq => ?_)
          obtain ⟨rfl, hq, hG⟩ := hq
          replace hq := hq.symm
          subst hq
          show V _ _ _ _ (_ :: _) _ _
          refine v_if_eq 170 dX7_layOut_156 (by decide) (fun c320 => ?_) (fun c320 => ?_)
          · rw [if_pos c320] at hF
            refine v_aload_n (i := 0) dX7_layOut_170 rfl rfl ?_
            refine v_bipush (v := 6) dX7_layOut_171 (by decide) ?_
            refine v_iload_n (i := 1) dX7_layOut_173 rfl rfl ?_
            obtain ⟨q321, q321_e, hF⟩ := Option.bind_eq_some_iff.mp hF
            refine c_X7_141 rfl sh_2 (by exact ltG hG (by decide)) (Nat.le_of_ble_eq_true rfl) dX7_layOut_174 (s_X7_blame _ q321_e hG) (fun r1 h1 hq => ?_)
            obtain ⟨rfl, hq, hG⟩ := hq
            replace hq := hq.symm
            subst hq
            simp only [Option.toList, List.nil_append]
            refine v_aload_n (i := 0) dX7_layOut_177 rfl rfl ?_
            refine g_X7_21 (q := 10) rfl sh_2 (by exact ltG hG (by decide)) (by exact rG hG r0_2_1) dX7_layOut_178 ?_
            refine g_X7_205 (q := 12) rfl sh_10 (by exact ltG hG (by decide)) (by exact rG hG r0_10_5) dX7_layOut_181 ?_
            refine v_iload_n (i := 2) dX7_layOut_184 rfl rfl ?_
            refine v_aload_n (i := 0) dX7_layOut_185 rfl rfl ?_
            refine v_iload_n (i := 3) dX7_layOut_186 rfl rfl ?_
            obtain ⟨q323, q323_e, hF⟩ := Option.bind_eq_some_iff.mp hF
            refine c_X7_198 rfl sh_2 (by exact ltG hG (by decide)) (Nat.le_of_ble_eq_true rfl) dX7_layOut_187 (s_X7_cellOf _ q323_e hG) (fun r1 h1 hq => ?_)
            obtain ⟨rfl, hq, hG⟩ := hq
            replace hq := hq.symm
            subst hq
            show V _ _ _ _ (_ :: _) _ _
            obtain ⟨k325, hF⟩ := ck_some hF
            refine v_iastore sh_12 (by exact ltG hG (by decide)) (ixO k325) dX7_layOut_190 ?_
            refine v_iinc (i := 2) (v := (l2 + 1)) dX7_layOut_191 rfl rfl (by decide) (nlT rfl) ?_
            simp only [List.set_cons_zero, List.set_cons_succ]
            refine v_goto 128 dX7_layOut_194 (by decide) ?_
            refine V.weak (la2 := [some (.ref 2), some (.int l1), some (.int (l2 + 1)), none, none]) (by simp [wk]) ?_
            exact (s_X7_layOut_IH_128) _ _ _ _ hF hG
          · rw [if_neg c320] at hF
            refine v_aload_n (i := 0) dX7_layOut_159 rfl rfl ?_
            refine g_X7_55 rfl sh_2 (by exact ltG hG (by decide)) dX7_layOut_160 ?_
            refine v_iload_n (i := 3) dX7_layOut_163 rfl rfl ?_
            refine v_iushr dX7_layOut_164 ?_
            refine v_iconst (v := 1) dX7_layOut_165 (by decide) ?_
            refine v_iand dX7_layOut_166 ?_
            refine v_if_eq 177 dX7_layOut_167 (by decide) (fun c326 => ?_) (fun c326 => ?_)
            · rw [if_pos c326] at hF
              refine v_aload_n (i := 0) dX7_layOut_177 rfl rfl ?_
              refine g_X7_21 (q := 10) rfl sh_2 (by exact ltG hG (by decide)) (by exact rG hG r0_2_1) dX7_layOut_178 ?_
              refine g_X7_205 (q := 12) rfl sh_10 (by exact ltG hG (by decide)) (by exact rG hG r0_10_5) dX7_layOut_181 ?_
              refine v_iload_n (i := 2) dX7_layOut_184 rfl rfl ?_
              refine v_aload_n (i := 0) dX7_layOut_185 rfl rfl ?_
              refine v_iload_n (i := 3) dX7_layOut_186 rfl rfl ?_
              obtain ⟨q327, q327_e, hF⟩ := Option.bind_eq_some_iff.mp hF
              refine c_X7_198 rfl sh_2 (by exact ltG hG (by decide)) (Nat.le_of_ble_eq_true rfl) dX7_layOut_187 (s_X7_cellOf _ q327_e hG) (fun r1 h1 hq => ?_)
              obtain ⟨rfl, hq, hG⟩ := hq
              replace hq := hq.symm
              subst hq
              show V _ _ _ _ (_ :: _) _ _
              obtain ⟨k329, hF⟩ := ck_some hF
              refine v_iastore sh_12 (by exact ltG hG (by decide)) (ixO k329) dX7_layOut_190 ?_
              refine v_iinc (i := 2) (v := (l2 + 1)) dX7_layOut_191 rfl rfl (by decide) (nlT rfl) ?_
              simp only [List.set_cons_zero, List.set_cons_succ]
              refine v_goto 128 dX7_layOut_194 (by decide) ?_
              refine V.weak (la2 := [some (.ref 2), some (.int l1), some (.int (l2 + 1)), none, none]) (by simp [wk]) ?_
              exact (s_X7_layOut_IH_128) _ _ _ _ hF hG
            · rw [if_neg c326] at hF
              refine v_aload_n (i := 0) dX7_layOut_170 rfl rfl ?_
              refine v_bipush (v := 6) dX7_layOut_171 (by decide) ?_
              refine v_iload_n (i := 1) dX7_layOut_173 rfl rfl ?_
              obtain ⟨q330, q330_e, hF⟩ := Option.bind_eq_some_iff.mp hF
              refine c_X7_141 rfl sh_2 (by exact ltG hG (by decide)) (Nat.le_of_ble_eq_true rfl) dX7_layOut_174 (s_X7_blame _ q330_e hG) (fun r1 h1 hq => ?_)
              obtain ⟨rfl, hq, hG⟩ := hq
              replace hq := hq.symm
              subst hq
              simp only [Option.toList, List.nil_append]
              refine v_aload_n (i := 0) dX7_layOut_177 rfl rfl ?_
              refine g_X7_21 (q := 10) rfl sh_2 (by exact ltG hG (by decide)) (by exact rG hG r0_2_1) dX7_layOut_178 ?_
              refine g_X7_205 (q := 12) rfl sh_10 (by exact ltG hG (by decide)) (by exact rG hG r0_10_5) dX7_layOut_181 ?_
              refine v_iload_n (i := 2) dX7_layOut_184 rfl rfl ?_
              refine v_aload_n (i := 0) dX7_layOut_185 rfl rfl ?_
              refine v_iload_n (i := 3) dX7_layOut_186 rfl rfl ?_
              obtain ⟨q332, q332_e, hF⟩ := Option.bind_eq_some_iff.mp hF
              refine c_X7_198 rfl sh_2 (by exact ltG hG (by decide)) (Nat.le_of_ble_eq_true rfl) dX7_layOut_187 (s_X7_cellOf _ q332_e hG) (fun r1 h1 hq => ?_)
              obtain ⟨rfl, hq, hG⟩ := hq
              replace hq := hq.symm
              subst hq
              show V _ _ _ _ (_ :: _) _ _
              obtain ⟨k334, hF⟩ := ck_some hF
              refine v_iastore sh_12 (by exact ltG hG (by decide)) (ixO k334) dX7_layOut_190 ?_
              refine v_iinc (i := 2) (v := (l2 + 1)) dX7_layOut_191 rfl rfl (by decide) (nlT rfl) ?_
              simp only [List.set_cons_zero, List.set_cons_succ]
              refine v_goto 128 dX7_layOut_194 (by decide) ?_
              refine V.weak (la2 := [some (.ref 2), some (.int l1), some (.int (l2 + 1)), none, none]) (by simp [wk]) ?_
              exact (s_X7_layOut_IH_128) _ _ _ _ hF hG
def F_X7_layOut (n : Nat) (h : Hp) (x1 : Int32) : Option Hp := W_X7_layOut n 2 h  x1 0
set_option maxRecDepth 100000 in
set_option maxHeartbeats 4000000 in
theorem s_X7_layOut (d : Nat) {n : Nat} {h : Hp} {x1 : Int32} {q0 : Hp} (hF : F_X7_layOut n h x1 = some q0) (hG : G h)  : Kc mX7_layOut (d + 1) [.ref 2, .int x1] h (fun r1 h1 => r1 = none ∧ h1 = q0 ∧ G q0) := by
  obtain ⟨h', rfl⟩ : ∃ z, z = q0 := ⟨_, rfl⟩
  obtain ⟨s_X7_layOut_IH_2, s_X7_layOut_IH_128⟩ := sw_X7_layOut d   n
  unfold F_X7_layOut at hF
  refine Kc.of [some (.ref 2), some (.int x1), none, none, none] ok_X7_layOut rfl (Nat.le_of_ble_eq_true rfl) ?_
  refine v_iconst (v := 0) dX7_layOut_0 (by decide) ?_
  refine v_istore_n (i := 2) dX7_layOut_1 rfl (by decide) (nlT rfl) ?_
  simp only [List.set_cons_zero, List.set_cons_succ]
  refine V.weak (la2 := [some (.ref 2), some (.int x1), some (.int 0), none, none]) (by simp [wk]) ?_
  exact (s_X7_layOut_IH_2) _ _ _ _ hF hG
def F_X7_take (n : Nat) (h : Hp) (x1 : Int32) : Option (Int32 × Hp) := ((F_X9_kindOf n h (hi h 2 4)).bind (fun q1 => (if (q1.1 : Int32) = (x1 : Int32) then (if ((hi q1.2 2 4) : Int32) < (400 : Int32) then (if ((hi q1.2 2 5) : Int32) = 0 then (if ((hi (wrI q1.2 2 4 ((hi q1.2 2 4) + 1)) 2 5) : Int32) = 0 then some (1, (wrI q1.2 2 4 ((hi q1.2 2 4) + 1))) else some (0, (wrI q1.2 2 4 ((hi q1.2 2 4) + 1)))) else (if ((hi q1.2 2 5) : Int32) = 0 then some (1, q1.2) else some (0, q1.2))) else ((F_X7_stop n q1.2 2).bind (fun q8 => (if ((hi q8 2 5) : Int32) = 0 then (if ((hi (wrI q8 2 4 ((hi q8 2 4) + 1)) 2 5) : Int32) = 0 then some (1, (wrI q8 2 4 ((hi q8 2 4) + 1))) else some (0, (wrI q8 2 4 ((hi q8 2 4) + 1)))) else (if ((hi q8 2 5) : Int32) = 0 then some (1, q8) else some (0, q8)))))) else ((F_X7_stop n q1.2 1).bind (fun q13 => (if ((hi q13 2 5) : Int32) = 0 then (if ((hi (wrI q13 2 4 ((hi q13 2 4) + 1)) 2 5) : Int32) = 0 then some (1, (wrI q13 2 4 ((hi q13 2 4) + 1))) else some (0, (wrI q13 2 4 ((hi q13 2 4) + 1)))) else (if ((hi q13 2 5) : Int32) = 0 then some (1, q13) else some (0, q13))))))))
set_option maxRecDepth 100000 in
set_option maxHeartbeats 4000000 in
theorem s_X7_take (d : Nat) {n : Nat} {h : Hp} {x1 : Int32} {q0 : (Int32 × Hp)} (hF : F_X7_take n h x1 = some q0) (hG : G h)  : Kc mX7_take (d + 1) [.ref 2, .int x1] h (fun r1 h1 => r1 = some (.int q0.1) ∧ h1 = q0.2 ∧ G q0.2) := by
  obtain ⟨r, h'⟩ := q0
  unfold F_X7_take at hF
  refine Kc.of [some (.ref 2), some (.int x1)] ok_X7_take rfl (Nat.le_of_ble_eq_true rfl) ?_
  refine v_aload_n (i := 0) dX7_take_0 rfl rfl ?_
  refine g_X7_69 (q := 18) rfl sh_2 (by exact ltG hG (by decide)) (by exact rG hG r0_2_3) dX7_take_1 ?_
  refine v_aload_n (i := 0) dX7_take_4 rfl rfl ?_
  refine g_X7_29 rfl sh_2 (by exact ltG hG (by decide)) dX7_take_5 ?_
  obtain ⟨q1, q1_e, hF⟩ := Option.bind_eq_some_iff.mp hF
  refine c_X7_102 rfl sh_18 (by exact ltG hG (by decide)) (Nat.le_of_ble_eq_true rfl) dX7_take_8 (s_X9_kindOf _ q1_e hG) (fun r1 h1 hq => ?_)
  obtain ⟨rfl, hq, hG⟩ := hq
  replace hq := hq.symm
  subst hq
  show V _ _ _ _ (_ :: _) _ _
  refine v_iload_n (i := 1) dX7_take_11 rfl rfl ?_
  refine v_icmp_eq 23 dX7_take_12 (by decide) (fun c3 => ?_) (fun c3 => ?_)
  · rw [if_pos c3] at hF
    refine v_aload_n (i := 0) dX7_take_23 rfl rfl ?_
    refine g_X7_29 rfl sh_2 (by exact ltG hG (by decide)) dX7_take_24 ?_
    refine v_sipush (v := 400) dX7_take_27 (by decide) ?_
    refine v_icmp_lt 38 dX7_take_30 (by decide) (fun c4 => ?_) (fun c4 => ?_)
    · rw [if_pos c4] at hF
      refine v_aload_n (i := 0) dX7_take_38 rfl rfl ?_
      refine g_X7_32 rfl sh_2 (by exact ltG hG (by decide)) dX7_take_39 ?_
      refine v_if_ne 55 dX7_take_42 (by decide) (fun c5 => ?_) (fun c5 => ?_)
      · rw [if_neg c5] at hF
        refine v_aload_n (i := 0) dX7_take_55 rfl rfl ?_
        refine g_X7_32 rfl sh_2 (by exact ltG hG (by decide)) dX7_take_56 ?_
        refine v_if_ne 66 dX7_take_59 (by decide) (fun c6 => ?_) (fun c6 => ?_)
        · rw [if_neg c6] at hF
          refine v_iconst (v := 0) dX7_take_66 (by decide) ?_
          refine v_zreturn rfl (by decide) dX7_take_67 ?_
          obtain ⟨rfl, rfl⟩ := Prod.mk.inj (Option.some.inj hF)
          exact ⟨rfl, rfl, hG⟩
        · rw [if_pos c6] at hF
          refine v_iconst (v := 1) dX7_take_62 (by decide) ?_
          refine v_goto 67 dX7_take_63 (by decide) ?_
          refine v_zreturn rfl (by decide) dX7_take_67 ?_
          obtain ⟨rfl, rfl⟩ := Prod.mk.inj (Option.some.inj hF)
          exact ⟨rfl, rfl, hG⟩
      · rw [if_pos c5] at hF
        refine v_aload_n (i := 0) dX7_take_45 rfl rfl ?_
        refine v_dup dX7_take_46 rfl ?_
        refine g_X7_29 rfl sh_2 (by exact ltG hG (by decide)) dX7_take_47 ?_
        refine v_iconst (v := 1) dX7_take_50 (by decide) ?_
        refine v_iadd dX7_take_51 ?_
        refine p_X7_29 rfl sh_2 (by exact ltG hG (by decide)) dX7_take_52 ?_
        refine v_aload_n (i := 0) dX7_take_55 rfl rfl ?_
        refine g_X7_32 rfl sh_2 (by exact ltG hG (by decide)) dX7_take_56 ?_
        refine v_if_ne 66 dX7_take_59 (by decide) (fun c7 => ?_) (fun c7 => ?_)
        · rw [if_neg c7] at hF
          refine v_iconst (v := 0) dX7_take_66 (by decide) ?_
          refine v_zreturn rfl (by decide) dX7_take_67 ?_
          obtain ⟨rfl, rfl⟩ := Prod.mk.inj (Option.some.inj hF)
          exact ⟨rfl, rfl, hG⟩
        · rw [if_pos c7] at hF
          refine v_iconst (v := 1) dX7_take_62 (by decide) ?_
          refine v_goto 67 dX7_take_63 (by decide) ?_
          refine v_zreturn rfl (by decide) dX7_take_67 ?_
          obtain ⟨rfl, rfl⟩ := Prod.mk.inj (Option.some.inj hF)
          exact ⟨rfl, rfl, hG⟩
    · rw [if_neg c4] at hF
      refine v_aload_n (i := 0) dX7_take_33 rfl rfl ?_
      refine v_iconst (v := 2) dX7_take_34 (by decide) ?_
      obtain ⟨q8, q8_e, hF⟩ := Option.bind_eq_some_iff.mp hF
      refine c_X7_105 rfl sh_2 (by exact ltG hG (by decide)) (Nat.le_of_ble_eq_true rfl) dX7_take_35 (s_X7_stop _ q8_e hG) (fun r1 h1 hq => ?_)
      obtain ⟨rfl, hq, hG⟩ := hq
      replace hq := hq.symm
      subst hq
      simp only [Option.toList, List.nil_append]
      refine v_aload_n (i := 0) dX7_take_38 rfl rfl ?_
      refine g_X7_32 rfl sh_2 (by exact ltG hG (by decide)) dX7_take_39 ?_
      refine v_if_ne 55 dX7_take_42 (by decide) (fun c10 => ?_) (fun c10 => ?_)
      · rw [if_neg c10] at hF
        refine v_aload_n (i := 0) dX7_take_55 rfl rfl ?_
        refine g_X7_32 rfl sh_2 (by exact ltG hG (by decide)) dX7_take_56 ?_
        refine v_if_ne 66 dX7_take_59 (by decide) (fun c11 => ?_) (fun c11 => ?_)
        · rw [if_neg c11] at hF
          refine v_iconst (v := 0) dX7_take_66 (by decide) ?_
          refine v_zreturn rfl (by decide) dX7_take_67 ?_
          obtain ⟨rfl, rfl⟩ := Prod.mk.inj (Option.some.inj hF)
          exact ⟨rfl, rfl, hG⟩
        · rw [if_pos c11] at hF
          refine v_iconst (v := 1) dX7_take_62 (by decide) ?_
          refine v_goto 67 dX7_take_63 (by decide) ?_
          refine v_zreturn rfl (by decide) dX7_take_67 ?_
          obtain ⟨rfl, rfl⟩ := Prod.mk.inj (Option.some.inj hF)
          exact ⟨rfl, rfl, hG⟩
      · rw [if_pos c10] at hF
        refine v_aload_n (i := 0) dX7_take_45 rfl rfl ?_
        refine v_dup dX7_take_46 rfl ?_
        refine g_X7_29 rfl sh_2 (by exact ltG hG (by decide)) dX7_take_47 ?_
        refine v_iconst (v := 1) dX7_take_50 (by decide) ?_
        refine v_iadd dX7_take_51 ?_
        refine p_X7_29 rfl sh_2 (by exact ltG hG (by decide)) dX7_take_52 ?_
        refine v_aload_n (i := 0) dX7_take_55 rfl rfl ?_
        refine g_X7_32 rfl sh_2 (by exact ltG hG (by decide)) dX7_take_56 ?_
        refine v_if_ne 66 dX7_take_59 (by decide) (fun c12 => ?_) (fun c12 => ?_)
        · rw [if_neg c12] at hF
          refine v_iconst (v := 0) dX7_take_66 (by decide) ?_
          refine v_zreturn rfl (by decide) dX7_take_67 ?_
          obtain ⟨rfl, rfl⟩ := Prod.mk.inj (Option.some.inj hF)
          exact ⟨rfl, rfl, hG⟩
        · rw [if_pos c12] at hF
          refine v_iconst (v := 1) dX7_take_62 (by decide) ?_
          refine v_goto 67 dX7_take_63 (by decide) ?_
          refine v_zreturn rfl (by decide) dX7_take_67 ?_
          obtain ⟨rfl, rfl⟩ := Prod.mk.inj (Option.some.inj hF)
          exact ⟨rfl, rfl, hG⟩
  · rw [if_neg c3] at hF
    refine v_aload_n (i := 0) dX7_take_15 rfl rfl ?_
    refine v_iconst (v := 1) dX7_take_16 (by decide) ?_
    obtain ⟨q13, q13_e, hF⟩ := Option.bind_eq_some_iff.mp hF
    refine c_X7_105 rfl sh_2 (by exact ltG hG (by decide)) (Nat.le_of_ble_eq_true rfl) dX7_take_17 (s_X7_stop _ q13_e hG) (fun r1 h1 hq => ?_)
    obtain ⟨rfl, hq, hG⟩ := hq
    replace hq := hq.symm
    subst hq
    simp only [Option.toList, List.nil_append]
    refine v_goto 38 dX7_take_20 (by decide) ?_
    refine v_aload_n (i := 0) dX7_take_38 rfl rfl ?_
    refine g_X7_32 rfl sh_2 (by exact ltG hG (by decide)) dX7_take_39 ?_
    refine v_if_ne 55 dX7_take_42 (by decide) (fun c15 => ?_) (fun c15 => ?_)
    · rw [if_neg c15] at hF
      refine v_aload_n (i := 0) dX7_take_55 rfl rfl ?_
      refine g_X7_32 rfl sh_2 (by exact ltG hG (by decide)) dX7_take_56 ?_
      refine v_if_ne 66 dX7_take_59 (by decide) (fun c16 => ?_) (fun c16 => ?_)
      · rw [if_neg c16] at hF
        refine v_iconst (v := 0) dX7_take_66 (by decide) ?_
        refine v_zreturn rfl (by decide) dX7_take_67 ?_
        obtain ⟨rfl, rfl⟩ := Prod.mk.inj (Option.some.inj hF)
        exact ⟨rfl, rfl, hG⟩
      · rw [if_pos c16] at hF
        refine v_iconst (v := 1) dX7_take_62 (by decide) ?_
        refine v_goto 67 dX7_take_63 (by decide) ?_
        refine v_zreturn rfl (by decide) dX7_take_67 ?_
        obtain ⟨rfl, rfl⟩ := Prod.mk.inj (Option.some.inj hF)
        exact ⟨rfl, rfl, hG⟩
    · rw [if_pos c15] at hF
      refine v_aload_n (i := 0) dX7_take_45 rfl rfl ?_
      refine v_dup dX7_take_46 rfl ?_
      refine g_X7_29 rfl sh_2 (by exact ltG hG (by decide)) dX7_take_47 ?_
      refine v_iconst (v := 1) dX7_take_50 (by decide) ?_
      refine v_iadd dX7_take_51 ?_
      refine p_X7_29 rfl sh_2 (by exact ltG hG (by decide)) dX7_take_52 ?_
      refine v_aload_n (i := 0) dX7_take_55 rfl rfl ?_
      refine g_X7_32 rfl sh_2 (by exact ltG hG (by decide)) dX7_take_56 ?_
      refine v_if_ne 66 dX7_take_59 (by decide) (fun c17 => ?_) (fun c17 => ?_)
      · rw [if_neg c17] at hF
        refine v_iconst (v := 0) dX7_take_66 (by decide) ?_
        refine v_zreturn rfl (by decide) dX7_take_67 ?_
        obtain ⟨rfl, rfl⟩ := Prod.mk.inj (Option.some.inj hF)
        exact ⟨rfl, rfl, hG⟩
      · rw [if_pos c17] at hF
        refine v_iconst (v := 1) dX7_take_62 (by decide) ?_
        refine v_goto 67 dX7_take_63 (by decide) ?_
        refine v_zreturn rfl (by decide) dX7_take_67 ?_
        obtain ⟨rfl, rfl⟩ := Prod.mk.inj (Option.some.inj hF)
        exact ⟨rfl, rfl, hG⟩
def F_X7_takeNumber (n : Nat) (h : Hp) (x1 : Int32) (x2 : Int32) : Option (Int32 × Hp) := ((F_X9_valueOf n h (hi h 2 4)).bind (fun q1 => ((F_X9_placeOf n q1.2 (hi q1.2 2 4)).bind (fun q3 => ((F_X7_take n q3.2 30).bind (fun q5 => (if (q5.1 : Int32) = 0 then some (x1, q5.2) else (if ((q1.1 : Int64).toInt32 : Int32) < (x1 : Int32) then ((F_X7_blame n q5.2 5 q3.1).bind (fun q9 => some ((if x1 < (if (q1.1 : Int64).toInt32 < x2 then (q1.1 : Int64).toInt32 else x2) then (if (q1.1 : Int64).toInt32 < x2 then (q1.1 : Int64).toInt32 else x2) else x1), q9))) else (if ((q1.1 : Int64).toInt32 : Int32) ≤ (x2 : Int32) then some ((if x1 < (if (q1.1 : Int64).toInt32 < x2 then (q1.1 : Int64).toInt32 else x2) then (if (q1.1 : Int64).toInt32 < x2 then (q1.1 : Int64).toInt32 else x2) else x1), q5.2) else ((F_X7_blame n q5.2 5 q3.1).bind (fun q12 => some ((if x1 < (if (q1.1 : Int64).toInt32 < x2 then (q1.1 : Int64).toInt32 else x2) then (if (q1.1 : Int64).toInt32 < x2 then (q1.1 : Int64).toInt32 else x2) else x1), q12))))))))))))
set_option maxRecDepth 100000 in
set_option maxHeartbeats 4000000 in
theorem s_X7_takeNumber (d : Nat) {n : Nat} {h : Hp} {x1 : Int32} {x2 : Int32} {q0 : (Int32 × Hp)} (hF : F_X7_takeNumber n h x1 x2 = some q0) (hG : G h)  : Kc mX7_takeNumber (d + 2) [.ref 2, .int x1, .int x2] h (fun r1 h1 => r1 = some (.int q0.1) ∧ h1 = q0.2 ∧ G q0.2) := by
  obtain ⟨r, h'⟩ := q0
  unfold F_X7_takeNumber at hF
  refine Kc.of [some (.ref 2), some (.int x1), some (.int x2), none, none] ok_X7_takeNumber rfl (Nat.le_of_ble_eq_true rfl) ?_
  refine v_aload_n (i := 0) dX7_takeNumber_0 rfl rfl ?_
  refine g_X7_69 (q := 18) rfl sh_2 (by exact ltG hG (by decide)) (by exact rG hG r0_2_3) dX7_takeNumber_1 ?_
  refine v_aload_n (i := 0) dX7_takeNumber_4 rfl rfl ?_
  refine g_X7_29 rfl sh_2 (by exact ltG hG (by decide)) dX7_takeNumber_5 ?_
  obtain ⟨q1, q1_e, hF⟩ := Option.bind_eq_some_iff.mp hF
  refine c_X7_137 rfl sh_18 (by exact ltG hG (by decide)) (Nat.le_of_ble_eq_true rfl) dX7_takeNumber_8 (s_X9_valueOf _ q1_e hG) (fun r1 h1 hq => ?_)
  obtain ⟨rfl, hq, hG⟩ := hq
  replace hq := hq.symm
  subst hq
  show V _ _ _ _ (_ :: _) _ _
  refine v_l2i dX7_takeNumber_11 ?_
  refine v_istore_n (i := 3) dX7_takeNumber_12 rfl (by decide) (nlT rfl) ?_
  simp only [List.set_cons_zero, List.set_cons_succ]
  refine v_aload_n (i := 0) dX7_takeNumber_13 rfl rfl ?_
  refine g_X7_69 (q := 18) rfl sh_2 (by exact ltG hG (by decide)) (by exact rG hG r0_2_3) dX7_takeNumber_14 ?_
  refine v_aload_n (i := 0) dX7_takeNumber_17 rfl rfl ?_
  refine g_X7_29 rfl sh_2 (by exact ltG hG (by decide)) dX7_takeNumber_18 ?_
  obtain ⟨q3, q3_e, hF⟩ := Option.bind_eq_some_iff.mp hF
  refine c_X7_87 rfl sh_18 (by exact ltG hG (by decide)) (Nat.le_of_ble_eq_true rfl) dX7_takeNumber_21 (s_X9_placeOf _ q3_e hG) (fun r1 h1 hq => ?_)
  obtain ⟨rfl, hq, hG⟩ := hq
  replace hq := hq.symm
  subst hq
  show V _ _ _ _ (_ :: _) _ _
  refine v_istore (i := 4) dX7_takeNumber_24 (by decide) (nlT rfl) ?_
  simp only [List.set_cons_zero, List.set_cons_succ]
  refine v_aload_n (i := 0) dX7_takeNumber_26 rfl rfl ?_
  refine v_bipush (v := 30) dX7_takeNumber_27 (by decide) ?_
  obtain ⟨q5, q5_e, hF⟩ := Option.bind_eq_some_iff.mp hF
  refine c_X7_120 rfl sh_2 (by exact ltG hG (by decide)) (Nat.le_of_ble_eq_true rfl) dX7_takeNumber_29 (s_X7_take _ q5_e hG) (fun r1 h1 hq => ?_)
  obtain ⟨rfl, hq, hG⟩ := hq
  replace hq := hq.symm
  subst hq
  show V _ _ _ _ (_ :: _) _ _
  refine v_if_ne 37 dX7_takeNumber_32 (by decide) (fun c7 => ?_) (fun c7 => ?_)
  · rw [if_neg c7] at hF
    refine v_iload_n (i := 3) dX7_takeNumber_37 rfl rfl ?_
    refine v_iload_n (i := 1) dX7_takeNumber_38 rfl rfl ?_
    refine v_icmp_lt 47 dX7_takeNumber_39 (by decide) (fun c8 => ?_) (fun c8 => ?_)
    · rw [if_pos c8] at hF
      refine v_aload_n (i := 0) dX7_takeNumber_47 rfl rfl ?_
      refine v_iconst (v := 5) dX7_takeNumber_48 (by decide) ?_
      refine v_iload (i := 4) dX7_takeNumber_49 rfl ?_
      obtain ⟨q9, q9_e, hF⟩ := Option.bind_eq_some_iff.mp hF
      refine c_X7_141 rfl sh_2 (by exact ltG hG (by decide)) (Nat.le_of_ble_eq_true rfl) dX7_takeNumber_51 (s_X7_blame _ q9_e hG) (fun r1 h1 hq => ?_)
      obtain ⟨rfl, hq, hG⟩ := hq
      replace hq := hq.symm
      subst hq
      simp only [Option.toList, List.nil_append]
      refine v_iload_n (i := 1) dX7_takeNumber_54 rfl rfl ?_
      refine v_iload_n (i := 2) dX7_takeNumber_55 rfl rfl ?_
      refine v_iload_n (i := 3) dX7_takeNumber_56 rfl rfl ?_
      refine v_min ml_X7_145 sm_J9_min_7cf53 in_J9 cw_J9_min_7cf53 (Nat.le_of_ble_eq_true rfl) dX7_takeNumber_57 ?_
      refine v_max ml_X7_150 sm_J9_max_7cf53 in_J9 cw_J9_max_7cf53 (Nat.le_of_ble_eq_true rfl) dX7_takeNumber_60 ?_
      refine v_ireturn rfl dX7_takeNumber_63 ?_
      obtain ⟨rfl, rfl⟩ := Prod.mk.inj (Option.some.inj hF)
      exact ⟨rfl, rfl, hG⟩
    · rw [if_neg c8] at hF
      refine v_iload_n (i := 3) dX7_takeNumber_42 rfl rfl ?_
      refine v_iload_n (i := 2) dX7_takeNumber_43 rfl rfl ?_
      refine v_icmp_le 54 dX7_takeNumber_44 (by decide) (fun c11 => ?_) (fun c11 => ?_)
      · rw [if_pos c11] at hF
        refine v_iload_n (i := 1) dX7_takeNumber_54 rfl rfl ?_
        refine v_iload_n (i := 2) dX7_takeNumber_55 rfl rfl ?_
        refine v_iload_n (i := 3) dX7_takeNumber_56 rfl rfl ?_
        refine v_min ml_X7_145 sm_J9_min_7cf53 in_J9 cw_J9_min_7cf53 (Nat.le_of_ble_eq_true rfl) dX7_takeNumber_57 ?_
        refine v_max ml_X7_150 sm_J9_max_7cf53 in_J9 cw_J9_max_7cf53 (Nat.le_of_ble_eq_true rfl) dX7_takeNumber_60 ?_
        refine v_ireturn rfl dX7_takeNumber_63 ?_
        obtain ⟨rfl, rfl⟩ := Prod.mk.inj (Option.some.inj hF)
        exact ⟨rfl, rfl, hG⟩
      · rw [if_neg c11] at hF
        refine v_aload_n (i := 0) dX7_takeNumber_47 rfl rfl ?_
        refine v_iconst (v := 5) dX7_takeNumber_48 (by decide) ?_
        refine v_iload (i := 4) dX7_takeNumber_49 rfl ?_
        obtain ⟨q12, q12_e, hF⟩ := Option.bind_eq_some_iff.mp hF
        refine c_X7_141 rfl sh_2 (by exact ltG hG (by decide)) (Nat.le_of_ble_eq_true rfl) dX7_takeNumber_51 (s_X7_blame _ q12_e hG) (fun r1 h1 hq => ?_)
        obtain ⟨rfl, hq, hG⟩ := hq
        replace hq := hq.symm
        subst hq
        simp only [Option.toList, List.nil_append]
        refine v_iload_n (i := 1) dX7_takeNumber_54 rfl rfl ?_
        refine v_iload_n (i := 2) dX7_takeNumber_55 rfl rfl ?_
        refine v_iload_n (i := 3) dX7_takeNumber_56 rfl rfl ?_
        refine v_min ml_X7_145 sm_J9_min_7cf53 in_J9 cw_J9_min_7cf53 (Nat.le_of_ble_eq_true rfl) dX7_takeNumber_57 ?_
        refine v_max ml_X7_150 sm_J9_max_7cf53 in_J9 cw_J9_max_7cf53 (Nat.le_of_ble_eq_true rfl) dX7_takeNumber_60 ?_
        refine v_ireturn rfl dX7_takeNumber_63 ?_
        obtain ⟨rfl, rfl⟩ := Prod.mk.inj (Option.some.inj hF)
        exact ⟨rfl, rfl, hG⟩
  · rw [if_pos c7] at hF
    refine v_iload_n (i := 1) dX7_takeNumber_35 rfl rfl ?_
    refine v_ireturn rfl dX7_takeNumber_36 ?_
    obtain ⟨rfl, rfl⟩ := Prod.mk.inj (Option.some.inj hF)
    exact ⟨rfl, rfl, hG⟩
def F_X7_takeSpot (n : Nat) (h : Hp) : Option (Int32 × Hp) := ((F_X7_takeNumber n h 0 4).bind (fun q1 => ((F_X7_takeNumber n q1.2 0 4).bind (fun q3 => some ((q1.1 + (5 * q3.1)), q3.2)))))
set_option maxRecDepth 100000 in
set_option maxHeartbeats 4000000 in
theorem s_X7_takeSpot (d : Nat) {n : Nat} {h : Hp}  {q0 : (Int32 × Hp)} (hF : F_X7_takeSpot n h  = some q0) (hG : G h)  : Kc mX7_takeSpot (d + 3) [.ref 2] h (fun r1 h1 => r1 = some (.int q0.1) ∧ h1 = q0.2 ∧ G q0.2) := by
  obtain ⟨r, h'⟩ := q0
  unfold F_X7_takeSpot at hF
  refine Kc.of [some (.ref 2), none] ok_X7_takeSpot rfl (Nat.le_of_ble_eq_true rfl) ?_
  refine v_aload_n (i := 0) dX7_takeSpot_0 rfl rfl ?_
  refine v_iconst (v := 0) dX7_takeSpot_1 (by decide) ?_
  refine v_iconst (v := 4) dX7_takeSpot_2 (by decide) ?_
  obtain ⟨q1, q1_e, hF⟩ := Option.bind_eq_some_iff.mp hF
  refine c_X7_124 rfl sh_2 (by exact ltG hG (by decide)) (Nat.le_of_ble_eq_true rfl) dX7_takeSpot_3 (s_X7_takeNumber _ q1_e hG) (fun r1 h1 hq => ?_)
  obtain ⟨rfl, hq, hG⟩ := hq
  replace hq := hq.symm
  subst hq
  show V _ _ _ _ (_ :: _) _ _
  refine v_istore_n (i := 1) dX7_takeSpot_6 rfl (by decide) (nlT rfl) ?_
  simp only [List.set_cons_zero, List.set_cons_succ]
  refine v_iload_n (i := 1) dX7_takeSpot_7 rfl rfl ?_
  refine v_iconst (v := 5) dX7_takeSpot_8 (by decide) ?_
  refine v_aload_n (i := 0) dX7_takeSpot_9 rfl rfl ?_
  refine v_iconst (v := 0) dX7_takeSpot_10 (by decide) ?_
  refine v_iconst (v := 4) dX7_takeSpot_11 (by decide) ?_
  obtain ⟨q3, q3_e, hF⟩ := Option.bind_eq_some_iff.mp hF
  refine c_X7_124 rfl sh_2 (by exact ltG hG (by decide)) (Nat.le_of_ble_eq_true rfl) dX7_takeSpot_12 (s_X7_takeNumber _ q3_e hG) (fun r1 h1 hq => ?_)
  obtain ⟨rfl, hq, hG⟩ := hq
  replace hq := hq.symm
  subst hq
  show V _ _ _ _ (_ :: _) _ _
  refine v_imul dX7_takeSpot_15 ?_
  refine v_iadd dX7_takeSpot_16 ?_
  refine v_ireturn rfl dX7_takeSpot_17 ?_
  obtain ⟨rfl, rfl⟩ := Prod.mk.inj (Option.some.inj hF)
  exact ⟨rfl, rfl, hG⟩
def F_X8_beatOf (n : Nat) (h : Hp) (a : Nat) (x1 : Int32) : Option (Int32 × Hp) := ((F_X8_isTuned n h a x1).bind (fun q1 => (if (q1.1 : Int32) = 0 then some (0, q1.2) else (if ixOK x1 25 = true then some ((((vp_nar .byte (hi q1.2 (a + 1) (Int32.toNatClampNeg x1))) : Int32) >>> ((3 : Int32) &&& 31)), q1.2) else none))))
set_option maxRecDepth 100000 in
set_option maxHeartbeats 4000000 in
theorem s_X8_beatOf (d : Nat) {n : Nat} {h : Hp} {a : Nat} {x1 : Int32} {q0 : (Int32 × Hp)} (hF : F_X8_beatOf n h a x1 = some q0) (hG : G h) (hs : Sc a) : Kc mX8_beatOf (d + 1) [.ref a, .int x1] h (fun r1 h1 => r1 = some (.int q0.1) ∧ h1 = q0.2 ∧ G q0.2) := by
  obtain ⟨s0, s1, s2, s3, s4, s5, s6, s7⟩ := id hs
  obtain ⟨r, h'⟩ := q0
  unfold F_X8_beatOf at hF
  refine Kc.of [some (.ref a), some (.int x1)] ok_X8_beatOf rfl (Nat.le_of_ble_eq_true rfl) ?_
  refine v_aload_n (i := 0) dX8_beatOf_0 rfl rfl ?_
  refine v_iload_n (i := 1) dX8_beatOf_1 rfl rfl ?_
  obtain ⟨q1, q1_e, hF⟩ := Option.bind_eq_some_iff.mp hF
  refine c_X8_47 rfl s0 (by exact ltG hG (by omega)) (Nat.le_of_ble_eq_true rfl) dX8_beatOf_2 (s_X8_isTuned _ q1_e hG (by first | assumption | exact sc_30 | exact sc_34 | exact sc_10 | exact fd_24 | exact fd_4 | exact lw_25 | exact lw_5 | exact bd_23 | exact bd_3 | exact ⟨by first | assumption | rfl, by first | decide | omega⟩)) (fun r1 h1 hq => ?_)
  obtain ⟨rfl, hq, hG⟩ := hq
  replace hq := hq.symm
  subst hq
  show V _ _ _ _ (_ :: _) _ _
  refine v_if_eq 19 dX8_beatOf_5 (by decide) (fun c3 => ?_) (fun c3 => ?_)
  · rw [if_pos c3] at hF
    refine v_iconst (v := 0) dX8_beatOf_19 (by decide) ?_
    refine v_ireturn rfl dX8_beatOf_20 ?_
    obtain ⟨rfl, rfl⟩ := Prod.mk.inj (Option.some.inj hF)
    exact ⟨rfl, rfl, hG⟩
  · rw [if_neg c3] at hF
    refine v_aload_n (i := 0) dX8_beatOf_8 rfl rfl ?_
    refine g_X8_24 (q := (a + 1)) rfl s0 (by exact ltG hG (by omega)) (by exact rG hG s5) dX8_beatOf_9 ?_
    refine v_iload_n (i := 1) dX8_beatOf_12 rfl rfl ?_
    obtain ⟨k4, hF⟩ := ck_some hF
    refine v_baload s1 (by exact ltG hG (by omega)) (ixO k4) dX8_beatOf_13 ?_
    refine v_iconst (v := 3) dX8_beatOf_14 (by decide) ?_
    refine v_ishr dX8_beatOf_15 ?_
    refine v_goto 20 dX8_beatOf_16 (by decide) ?_
    refine v_ireturn rfl dX8_beatOf_20 ?_
    obtain ⟨rfl, rfl⟩ := Prod.mk.inj (Option.some.inj hF)
    exact ⟨rfl, rfl, hG⟩
def F_X8_soundFromTheLeft (n : Nat) (h : Hp) (a : Nat) (x1 : Int32) : Option Hp := ((F_X8_beatOf n h a (x1 - 1)).bind (fun q1 => (if (q1.1 : Int32) ≤ 0 then some q1.2 else ((F_X8_offsetOf n q1.2 a (x1 - 1)).bind (fun q4 => (if q1.1 = 0 then none else ((F_X8_soundIn n q4.2 a x1 q1.1 ((q4.1 + 1) - (q4.1 + 1) / q1.1 * q1.1)).bind (fun q7 => some q7))))))))
set_option maxRecDepth 100000 in
set_option maxHeartbeats 4000000 in
theorem s_X8_soundFromTheLeft (d : Nat) {n : Nat} {h : Hp} {a : Nat} {x1 : Int32} {q0 : Hp} (hF : F_X8_soundFromTheLeft n h a x1 = some q0) (hG : G h) (hs : Sc a) : Kc mX8_soundFromTheLeft (d + 2) [.ref a, .int x1] h (fun r1 h1 => r1 = none ∧ h1 = q0 ∧ G q0) := by
  obtain ⟨s0, s1, s2, s3, s4, s5, s6, s7⟩ := id hs
  obtain ⟨h', rfl⟩ : ∃ z, z = q0 := ⟨_, rfl⟩
  unfold F_X8_soundFromTheLeft at hF
  refine Kc.of [some (.ref a), some (.int x1), none] ok_X8_soundFromTheLeft rfl (Nat.le_of_ble_eq_true rfl) ?_
  refine v_aload_n (i := 0) dX8_soundFromTheLeft_0 rfl rfl ?_
  refine v_iload_n (i := 1) dX8_soundFromTheLeft_1 rfl rfl ?_
  refine v_iconst (v := 1) dX8_soundFromTheLeft_2 (by decide) ?_
  refine v_isub dX8_soundFromTheLeft_3 ?_
  obtain ⟨q1, q1_e, hF⟩ := Option.bind_eq_some_iff.mp hF
  refine c_X8_51 rfl s0 (by exact ltG hG (by omega)) (Nat.le_of_ble_eq_true rfl) dX8_soundFromTheLeft_4 (s_X8_beatOf _ q1_e hG (by first | assumption | exact sc_30 | exact sc_34 | exact sc_10 | exact fd_24 | exact fd_4 | exact lw_25 | exact lw_5 | exact bd_23 | exact bd_3 | exact ⟨by first | assumption | rfl, by first | decide | omega⟩)) (fun r1 h1 hq => ?_)
  obtain ⟨rfl, hq, hG⟩ := hq
  replace hq := hq.symm
  subst hq
  show V _ _ _ _ (_ :: _) _ _
  refine v_istore_n (i := 2) dX8_soundFromTheLeft_7 rfl (by decide) (nlT rfl) ?_
  simp only [List.set_cons_zero, List.set_cons_succ]
  refine v_iload_n (i := 2) dX8_soundFromTheLeft_8 rfl rfl ?_
  refine v_if_le 29 dX8_soundFromTheLeft_9 (by decide) (fun c3 => ?_) (fun c3 => ?_)
  · rw [if_pos c3] at hF
    refine v_return rfl dX8_soundFromTheLeft_29 ?_
    obtain rfl := Option.some.inj hF
    exact ⟨rfl, rfl, hG⟩
  · rw [if_neg c3] at hF
    refine v_aload_n (i := 0) dX8_soundFromTheLeft_12 rfl rfl ?_
    refine v_iload_n (i := 1) dX8_soundFromTheLeft_13 rfl rfl ?_
    refine v_iload_n (i := 2) dX8_soundFromTheLeft_14 rfl rfl ?_
    refine v_aload_n (i := 0) dX8_soundFromTheLeft_15 rfl rfl ?_
    refine v_iload_n (i := 1) dX8_soundFromTheLeft_16 rfl rfl ?_
    refine v_iconst (v := 1) dX8_soundFromTheLeft_17 (by decide) ?_
    refine v_isub dX8_soundFromTheLeft_18 ?_
    obtain ⟨q4, q4_e, hF⟩ := Option.bind_eq_some_iff.mp hF
    refine c_X8_55 rfl s0 (by exact ltG hG (by omega)) (Nat.le_of_ble_eq_true rfl) dX8_soundFromTheLeft_19 (s_X8_offsetOf _ q4_e hG (by first | assumption | exact sc_30 | exact sc_34 | exact sc_10 | exact fd_24 | exact fd_4 | exact lw_25 | exact lw_5 | exact bd_23 | exact bd_3 | exact ⟨by first | assumption | rfl, by first | decide | omega⟩)) (fun r1 h1 hq => ?_)
    obtain ⟨rfl, hq, hG⟩ := hq
    replace hq := hq.symm
    subst hq
    show V _ _ _ _ (_ :: _) _ _
    refine v_iconst (v := 1) dX8_soundFromTheLeft_22 (by decide) ?_
    refine v_iadd dX8_soundFromTheLeft_23 ?_
    refine v_iload_n (i := 2) dX8_soundFromTheLeft_24 rfl rfl ?_
    obtain ⟨k6, hF⟩ := ck_none hF
    refine v_irem dX8_soundFromTheLeft_25 k6 ?_
    obtain ⟨q7, q7_e, hF⟩ := Option.bind_eq_some_iff.mp hF
    refine c_X8_58 rfl s0 (by exact ltG hG (by omega)) (Nat.le_of_ble_eq_true rfl) dX8_soundFromTheLeft_26 (s_X8_soundIn _ q7_e hG (by first | assumption | exact sc_30 | exact sc_34 | exact sc_10 | exact fd_24 | exact fd_4 | exact lw_25 | exact lw_5 | exact bd_23 | exact bd_3 | exact ⟨by first | assumption | rfl, by first | decide | omega⟩)) (fun r1 h1 hq => ?_)
    obtain ⟨rfl, hq, hG⟩ := hq
    replace hq := hq.symm
    subst hq
    simp only [Option.toList, List.nil_append]
    refine v_return rfl dX8_soundFromTheLeft_29 ?_
    obtain rfl := Option.some.inj hF
    exact ⟨rfl, rfl, hG⟩
def F_X8_soundsAt (n : Nat) (h : Hp) (a : Nat) (x1 : Int32) (x2 : Int32) : Option (Int32 × Hp) := ((F_X8_beatOf n h a x1).bind (fun q1 => (if (q1.1 : Int32) ≤ 0 then some (0, q1.2) else (if q1.1 = 0 then none else ((F_X8_offsetOf n q1.2 a x1).bind (fun q5 => (if ((x2 - x2 / q1.1 * q1.1) : Int32) = (q5.1 : Int32) then some (1, q5.2) else some (0, q5.2))))))))
set_option maxRecDepth 100000 in
set_option maxHeartbeats 4000000 in
theorem s_X8_soundsAt (d : Nat) {n : Nat} {h : Hp} {a : Nat} {x1 : Int32} {x2 : Int32} {q0 : (Int32 × Hp)} (hF : F_X8_soundsAt n h a x1 x2 = some q0) (hG : G h) (hs : Sc a) : Kc mX8_soundsAt (d + 2) [.ref a, .int x1, .int x2] h (fun r1 h1 => r1 = some (.int q0.1) ∧ h1 = q0.2 ∧ G q0.2) := by
  obtain ⟨s0, s1, s2, s3, s4, s5, s6, s7⟩ := id hs
  obtain ⟨r, h'⟩ := q0
  unfold F_X8_soundsAt at hF
  refine Kc.of [some (.ref a), some (.int x1), some (.int x2), none] ok_X8_soundsAt rfl (Nat.le_of_ble_eq_true rfl) ?_
  refine v_aload_n (i := 0) dX8_soundsAt_0 rfl rfl ?_
  refine v_iload_n (i := 1) dX8_soundsAt_1 rfl rfl ?_
  obtain ⟨q1, q1_e, hF⟩ := Option.bind_eq_some_iff.mp hF
  refine c_X8_51 rfl s0 (by exact ltG hG (by omega)) (Nat.le_of_ble_eq_true rfl) dX8_soundsAt_2 (s_X8_beatOf _ q1_e hG (by first | assumption | exact sc_30 | exact sc_34 | exact sc_10 | exact fd_24 | exact fd_4 | exact lw_25 | exact lw_5 | exact bd_23 | exact bd_3 | exact ⟨by first | assumption | rfl, by first | decide | omega⟩)) (fun r1 h1 hq => ?_)
  obtain ⟨rfl, hq, hG⟩ := hq
  replace hq := hq.symm
  subst hq
  show V _ _ _ _ (_ :: _) _ _
  refine v_istore_n (i := 3) dX8_soundsAt_5 rfl (by decide) (nlT rfl) ?_
  simp only [List.set_cons_zero, List.set_cons_succ]
  refine v_iload_n (i := 3) dX8_soundsAt_6 rfl rfl ?_
  refine v_if_le 25 dX8_soundsAt_7 (by decide) (fun c3 => ?_) (fun c3 => ?_)
  · rw [if_pos c3] at hF
    refine v_iconst (v := 0) dX8_soundsAt_25 (by decide) ?_
    refine v_zreturn rfl (by decide) dX8_soundsAt_26 ?_
    obtain ⟨rfl, rfl⟩ := Prod.mk.inj (Option.some.inj hF)
    exact ⟨rfl, rfl, hG⟩
  · rw [if_neg c3] at hF
    refine v_iload_n (i := 2) dX8_soundsAt_10 rfl rfl ?_
    refine v_iload_n (i := 3) dX8_soundsAt_11 rfl rfl ?_
    obtain ⟨k4, hF⟩ := ck_none hF
    refine v_irem dX8_soundsAt_12 k4 ?_
    refine v_aload_n (i := 0) dX8_soundsAt_13 rfl rfl ?_
    refine v_iload_n (i := 1) dX8_soundsAt_14 rfl rfl ?_
    obtain ⟨q5, q5_e, hF⟩ := Option.bind_eq_some_iff.mp hF
    refine c_X8_55 rfl s0 (by exact ltG hG (by omega)) (Nat.le_of_ble_eq_true rfl) dX8_soundsAt_15 (s_X8_offsetOf _ q5_e hG (by first | assumption | exact sc_30 | exact sc_34 | exact sc_10 | exact fd_24 | exact fd_4 | exact lw_25 | exact lw_5 | exact bd_23 | exact bd_3 | exact ⟨by first | assumption | rfl, by first | decide | omega⟩)) (fun r1 h1 hq => ?_)
    obtain ⟨rfl, hq, hG⟩ := hq
    replace hq := hq.symm
    subst hq
    show V _ _ _ _ (_ :: _) _ _
    refine v_icmp_ne 25 dX8_soundsAt_18 (by decide) (fun c7 => ?_) (fun c7 => ?_)
    · rw [if_neg c7] at hF
      refine v_iconst (v := 0) dX8_soundsAt_25 (by decide) ?_
      refine v_zreturn rfl (by decide) dX8_soundsAt_26 ?_
      obtain ⟨rfl, rfl⟩ := Prod.mk.inj (Option.some.inj hF)
      exact ⟨rfl, rfl, hG⟩
    · rw [if_pos c7] at hF
      refine v_iconst (v := 1) dX8_soundsAt_21 (by decide) ?_
      refine v_goto 26 dX8_soundsAt_22 (by decide) ?_
      refine v_zreturn rfl (by decide) dX8_soundsAt_26 ?_
      obtain ⟨rfl, rfl⟩ := Prod.mk.inj (Option.some.inj hF)
      exact ⟨rfl, rfl, hG⟩
def W_X9_behindBlanks : Nat → Nat → Hp → Int32 → Int32 → Option (Int32 × Hp)
  | 0 => fun _ _ _ _ => none
  | n + 1 => fun hd h l1 l2 => (if hd = 2 then (if ((hi h 18 6) : Int32) ≤ (l2 : Int32) then some (l2, h) else ((F_X9_signAt n h l2).bind (fun q2 => ((F_X9_isBlank n q2.2 q2.1).bind (fun q4 => (if (q4.1 : Int32) = 0 then some (l2, q4.2) else W_X9_behindBlanks n 2 q4.2  l1 (l2 + 1))))))) else none)
set_option maxRecDepth 100000 in
set_option maxHeartbeats 4000000 in
theorem sw_X9_behindBlanks (d : Nat)  (n : Nat) : (∀ (l1 : Int32) (l2 : Int32) (h : Hp), ∀ (r : Int32) (h' : Hp), W_X9_behindBlanks n 2 h  l1 l2 = some (r, h') → G h → V mX9_behindBlanks (d + 1) 2 [some (.ref 18), some (.int l1), some (.int l2)] [] h (fun r1 h1 => r1 = some (.int r) ∧ h1 = h' ∧ G h')) := by
  induction n with
  | zero => exact by intros; contradiction
  | succ n ih =>
    have s_X9_behindBlanks_IH_2 := ih
    intro l1 l2 h r h' hF hG
    unfold W_X9_behindBlanks at hF
    rw [if_pos rfl] at hF
    refine v_iload_n (i := 2) dX9_behindBlanks_2 rfl rfl ?_
    refine v_aload_n (i := 0) dX9_behindBlanks_3 rfl rfl ?_
    refine g_X9_30 rfl sh_18 (by exact ltG hG (by decide)) dX9_behindBlanks_4 ?_
    refine v_icmp_ge 27 dX9_behindBlanks_7 (by decide) (fun c1 => ?_) (fun c1 => ?_)
    · rw [if_pos c1] at hF
      refine v_iload_n (i := 2) dX9_behindBlanks_27 rfl rfl ?_
      refine v_ireturn rfl dX9_behindBlanks_28 ?_
      obtain ⟨rfl, rfl⟩ := Prod.mk.inj (Option.some.inj hF)
      exact ⟨rfl, rfl, hG⟩
    · rw [if_neg c1] at hF
      refine v_aload_n (i := 0) dX9_behindBlanks_10 rfl rfl ?_
      refine v_iload_n (i := 2) dX9_behindBlanks_11 rfl rfl ?_
      obtain ⟨q2, q2_e, hF⟩ := Option.bind_eq_some_iff.mp hF
      refine c_X9_69 rfl sh_18 (by exact ltG hG (by decide)) (Nat.le_of_ble_eq_true rfl) dX9_behindBlanks_12 (s_X9_signAt _ q2_e hG) (fun r1 h1 hq => ?_)
      obtain ⟨rfl, hq, hG⟩ := hq
      replace hq := hq.symm
      subst hq
      show V _ _ _ _ (_ :: _) _ _
      obtain ⟨q4, q4_e, hF⟩ := Option.bind_eq_some_iff.mp hF
      refine c_X9_99 rfl (Nat.le_of_ble_eq_true rfl) dX9_behindBlanks_15 (s_X9_isBlank _ q4_e hG) (fun r1 h1 hq => ?_)
      obtain ⟨rfl, hq, hG⟩ := hq
      replace hq := hq.symm
      subst hq
      show V _ _ _ _ (_ :: _) _ _
      refine v_if_eq 27 dX9_behindBlanks_18 (by decide) (fun c6 => ?_) (fun c6 => ?_)
      · rw [if_pos c6] at hF
        refine v_iload_n (i := 2) dX9_behindBlanks_27 rfl rfl ?_
        refine v_ireturn rfl dX9_behindBlanks_28 ?_
        obtain ⟨rfl, rfl⟩ := Prod.mk.inj (Option.some.inj hF)
        exact ⟨rfl, rfl, hG⟩
      · rw [if_neg c6] at hF
        refine v_iinc (i := 2) (v := (l2 + 1)) dX9_behindBlanks_21 rfl rfl (by decide) (nlT rfl) ?_
        simp only [List.set_cons_zero, List.set_cons_succ]
        refine v_goto 2 dX9_behindBlanks_24 (by decide) ?_
        refine V.weak (la2 := [some (.ref 18), some (.int l1), some (.int (l2 + 1))]) (by simp [wk]) ?_
        exact (s_X9_behindBlanks_IH_2) _ _ _ _ _ hF hG
def F_X9_behindBlanks (n : Nat) (h : Hp) (x1 : Int32) : Option (Int32 × Hp) := W_X9_behindBlanks n 2 h  x1 x1
set_option maxRecDepth 100000 in
set_option maxHeartbeats 4000000 in
theorem s_X9_behindBlanks (d : Nat) {n : Nat} {h : Hp} {x1 : Int32} {q0 : (Int32 × Hp)} (hF : F_X9_behindBlanks n h x1 = some q0) (hG : G h)  : Kc mX9_behindBlanks (d + 1) [.ref 18, .int x1] h (fun r1 h1 => r1 = some (.int q0.1) ∧ h1 = q0.2 ∧ G q0.2) := by
  obtain ⟨r, h'⟩ := q0
  have s_X9_behindBlanks_IH_2 := sw_X9_behindBlanks d   n
  unfold F_X9_behindBlanks at hF
  refine Kc.of [some (.ref 18), some (.int x1), none] ok_X9_behindBlanks rfl (Nat.le_of_ble_eq_true rfl) ?_
  refine v_iload_n (i := 1) dX9_behindBlanks_0 rfl rfl ?_
  refine v_istore_n (i := 2) dX9_behindBlanks_1 rfl (by decide) (nlT rfl) ?_
  simp only [List.set_cons_zero, List.set_cons_succ]
  refine V.weak (la2 := [some (.ref 18), some (.int x1), some (.int x1)]) (by simp [wk]) ?_
  exact (s_X9_behindBlanks_IH_2) _ _ _ _ _ hF hG
def W_X9_behindDigits : Nat → Nat → Hp → Int32 → Int32 → Option (Int32 × Hp)
  | 0 => fun _ _ _ _ => none
  | n + 1 => fun hd h l1 l2 => (if hd = 2 then (if ((hi h 18 6) : Int32) ≤ (l2 : Int32) then some (l2, h) else ((F_X9_signAt n h l2).bind (fun q2 => ((F_X9_isDigit n q2.2 q2.1).bind (fun q4 => (if (q4.1 : Int32) = 0 then some (l2, q4.2) else W_X9_behindDigits n 2 q4.2  l1 (l2 + 1))))))) else none)
set_option maxRecDepth 100000 in
set_option maxHeartbeats 4000000 in
theorem sw_X9_behindDigits (d : Nat)  (n : Nat) : (∀ (l1 : Int32) (l2 : Int32) (h : Hp), ∀ (r : Int32) (h' : Hp), W_X9_behindDigits n 2 h  l1 l2 = some (r, h') → G h → V mX9_behindDigits (d + 1) 2 [some (.ref 18), some (.int l1), some (.int l2)] [] h (fun r1 h1 => r1 = some (.int r) ∧ h1 = h' ∧ G h')) := by
  induction n with
  | zero => exact by intros; contradiction
  | succ n ih =>
    have s_X9_behindDigits_IH_2 := ih
    intro l1 l2 h r h' hF hG
    unfold W_X9_behindDigits at hF
    rw [if_pos rfl] at hF
    refine v_iload_n (i := 2) dX9_behindDigits_2 rfl rfl ?_
    refine v_aload_n (i := 0) dX9_behindDigits_3 rfl rfl ?_
    refine g_X9_30 rfl sh_18 (by exact ltG hG (by decide)) dX9_behindDigits_4 ?_
    refine v_icmp_ge 27 dX9_behindDigits_7 (by decide) (fun c1 => ?_) (fun c1 => ?_)
    · rw [if_pos c1] at hF
      refine v_iload_n (i := 2) dX9_behindDigits_27 rfl rfl ?_
      refine v_ireturn rfl dX9_behindDigits_28 ?_
      obtain ⟨rfl, rfl⟩ := Prod.mk.inj (Option.some.inj hF)
      exact ⟨rfl, rfl, hG⟩
    · rw [if_neg c1] at hF
      refine v_aload_n (i := 0) dX9_behindDigits_10 rfl rfl ?_
      refine v_iload_n (i := 2) dX9_behindDigits_11 rfl rfl ?_
      obtain ⟨q2, q2_e, hF⟩ := Option.bind_eq_some_iff.mp hF
      refine c_X9_69 rfl sh_18 (by exact ltG hG (by decide)) (Nat.le_of_ble_eq_true rfl) dX9_behindDigits_12 (s_X9_signAt _ q2_e hG) (fun r1 h1 hq => ?_)
      obtain ⟨rfl, hq, hG⟩ := hq
      replace hq := hq.symm
      subst hq
      show V _ _ _ _ (_ :: _) _ _
      obtain ⟨q4, q4_e, hF⟩ := Option.bind_eq_some_iff.mp hF
      refine c_X9_87 rfl (Nat.le_of_ble_eq_true rfl) dX9_behindDigits_15 (s_X9_isDigit _ q4_e hG) (fun r1 h1 hq => ?_)
      obtain ⟨rfl, hq, hG⟩ := hq
      replace hq := hq.symm
      subst hq
      show V _ _ _ _ (_ :: _) _ _
      refine v_if_eq 27 dX9_behindDigits_18 (by decide) (fun c6 => ?_) (fun c6 => ?_)
      · rw [if_pos c6] at hF
        refine v_iload_n (i := 2) dX9_behindDigits_27 rfl rfl ?_
        refine v_ireturn rfl dX9_behindDigits_28 ?_
        obtain ⟨rfl, rfl⟩ := Prod.mk.inj (Option.some.inj hF)
        exact ⟨rfl, rfl, hG⟩
      · rw [if_neg c6] at hF
        refine v_iinc (i := 2) (v := (l2 + 1)) dX9_behindDigits_21 rfl rfl (by decide) (nlT rfl) ?_
        simp only [List.set_cons_zero, List.set_cons_succ]
        refine v_goto 2 dX9_behindDigits_24 (by decide) ?_
        refine V.weak (la2 := [some (.ref 18), some (.int l1), some (.int (l2 + 1))]) (by simp [wk]) ?_
        exact (s_X9_behindDigits_IH_2) _ _ _ _ _ hF hG
def F_X9_behindDigits (n : Nat) (h : Hp) (x1 : Int32) : Option (Int32 × Hp) := W_X9_behindDigits n 2 h  x1 x1
set_option maxRecDepth 100000 in
set_option maxHeartbeats 4000000 in
theorem s_X9_behindDigits (d : Nat) {n : Nat} {h : Hp} {x1 : Int32} {q0 : (Int32 × Hp)} (hF : F_X9_behindDigits n h x1 = some q0) (hG : G h)  : Kc mX9_behindDigits (d + 1) [.ref 18, .int x1] h (fun r1 h1 => r1 = some (.int q0.1) ∧ h1 = q0.2 ∧ G q0.2) := by
  obtain ⟨r, h'⟩ := q0
  have s_X9_behindDigits_IH_2 := sw_X9_behindDigits d   n
  unfold F_X9_behindDigits at hF
  refine Kc.of [some (.ref 18), some (.int x1), none] ok_X9_behindDigits rfl (Nat.le_of_ble_eq_true rfl) ?_
  refine v_iload_n (i := 1) dX9_behindDigits_0 rfl rfl ?_
  refine v_istore_n (i := 2) dX9_behindDigits_1 rfl (by decide) (nlT rfl) ?_
  simp only [List.set_cons_zero, List.set_cons_succ]
  refine V.weak (la2 := [some (.ref 18), some (.int x1), some (.int x1)]) (by simp [wk]) ?_
  exact (s_X9_behindDigits_IH_2) _ _ _ _ _ hF hG
