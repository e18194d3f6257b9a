/-! Constant texts read; calls on them; long answers; copies of arrays. -/
def rz_pk : List Nat → Nat
  | [] => 0
  | c :: t => c + 256 * rz_pk t
theorem rz_pk_at : ∀ (l : List Nat) (j : Nat), (∀ c ∈ l, c < 256) → (rz_pk l >>> (8 * j)) % 256 = l.getD j 0
  | [], j, _ => by
    show (0 >>> (8 * j)) % 256 = ([] : List Nat).getD j 0
    rw [Nat.zero_shiftRight]
    rfl
  | c :: t, 0, h => by
    have := h c List.mem_cons_self
    show (c + 256 * rz_pk t) % 256 = c
    omega
  | c :: t, j + 1, h => by
    have hc := h c List.mem_cons_self
    have ih := rz_pk_at t j (fun x hx => h x (List.mem_cons_of_mem _ hx))
    show ((c + 256 * rz_pk t) >>> (8 * (j + 1))) % 256 = t.getD j 0
    rw [show 8 * (j + 1) = 8 + 8 * j by omega, Nat.shiftRight_add]
    have e : (c + 256 * rz_pk t) >>> 8 = rz_pk t := by
      rw [Nat.shiftRight_eq_div_pow]
      omega
    rw [e]
    exact ih
def rz_px : List Nat := [2620443251055310546328614521315192401113378873990889354935299456521320963013752051140666119515424431706013289945918464272508434258312079212194868715365742362686862943972373626039688827289494474956453857133890558900825820445595697687536032118104272030557111325968042823657621491959470666733965594382363889669766649752957877145894442781227127197406383810883326140147101320338874336915989218988429535874165001100177311901453594195410043687517549740154985518165893960191827480070163801170211099253606595037621496271330840467239695345202770809235513197577856480940981402107682169116705999019254164782214643530484582038194589592514073306870337974803650308286955389050459078946598706401572612251996836662738263464573025637374657380596687483630144655801124645762372436456816, 3614170860556609656360150698973881887860607801529999676839093984263424855739186287252670181877211692906388747344849559418497201640314913693373251979316774059660810564575986739526053485242965061179833683921408936321773075812911180275556013308342853460521272879955269639600369257, 9210316117698298788568302049298352670531670142548988653529196307768149244191351827077633218103612441052695461833576449672107805996020360033262601722653146752292483571349022470368374674467530249041919633509860665660, 48731246183194553870332729714853368516182672775909852706396777511908083293241688884165096737482244029849120569769181024092485414583133434760267354278887883253164644988400362036314533631870744044176013986461288771308715035258337081104665633535166852643162431488641573429428280925661517059059312302402080861879016749767415967542187784940839307959309871435844801091923488915473441423296460701337486184508515, 209299108650590475500854820023192361074706021721851723097201065053357308859194427234047726508916180547138097809051949448764607991482409901737377044031739147261805744245407210156034389017409553749270616289646957387724695113299999535737975172791734144288265522186381738580720021363833600589509078811675016612343842971939970364091436749004126305304445416634289196596213182794926391227642481057019109540925818120793187, 39968730417645664568778071268865205336389783003278278410475420941426391728048463782675565872655693110895080649977038350097894201716441885847589410116959748998537561219733020027496144431349149323387576882122308356137430416077404384628330170042351478048682580322576577631116620305436300923333419939453643039235869297802764369731415422747952571785668153087321046018647912745887149934915757027915550384793826317566513118878568105433467434559478207186085581520215061369032513079142887423680919277593373857305569945506847605317315731654913066197445686692695966495189575432901584214830012907094353077091587134753838923865365521824624403785599437163348551518547369659136898521540753473534550922966679175058435682369015819357959786612611943624662593824142992005817694485349661562718454273040024907883799589011900246163394177445101614027221700198311636690121896306283047516472981997936616122839693281310160449530979, 171664369861087722111578294808570149195760782796970000662713989638843599620136045006628519918581318946410288458985685002405938484846689952445385701891435587854324931045999251361608448250158898598838054154579038168517843061762496717489490554129748952537893866751302423419884691533281858372489818824334203113991410321563799493410122063948174764912830749590132567604900872568204496258160004613591769979065756624366771372827798136056136861865112459576568761858075113051377939064356176540075352317078147486931313034101068349600714598959212724107976567153638154974055784416775771421047763524186579927002628276562130540628713013530242735950279432861999614563763465449446931191250843847637112995764061271687970652219850451932298895397284518602654594827162048601433091892462788936496272799462379691124119893749940967775561421347503641259912066990108088926454983789337792144798066077204154159109717625738772700435033895300195, 197028937377015177188968001597485012112046561874111506313127187115995200097329137663809617695668801751583928080834760890137606029743532349234387157554786008442056403460363886154735750096755469253297364719348218776944234528434646115, 218044711001370839776635, 8406018112145272467247959191327837454414360247642920651842509515650881304048161892012854161281082009933779021442179708649027863797836903278, 53153515920819441362666542910131144855049304885413096216286266040767542343347864517425965974502461604669131502565160662930102916344594976003379885555909682544540401548659715519393176410618774648706587153914044147688489243790855265899261427245797995666483231527684135567182579800197139375195542684881984878091091218456101570719925742930929403013974613875714997304145740336242569753813263422420206737039674487070807713113709082728605215445553818620273631279723257951360118393782411217228421606117465276874512520276934200860102158584164174445584504877285870826614783056946210766837907736339087464633814701129545459473268920269472839811160406868046551961206805249256551035972265951440687925786928503958719196384363968902159652437885471378420663123929035828556349699518416262793657621720304593607138241241881772714565121589766179977041662423633669794518905807890836289987944456068139949574521226815614923692064743316260032706759428813477952341234509453782675733812768809005616318421873040050889503562863047889056717183733350642919920239111712080783123478027537321031716450906813013646665424092339592481010070687624683083157266718455199419423909451779379310129000804873718973067051851634277383271057615029890381630859399884528312472728285761880958674112598050665361861560233242957268190093798511729895290944866413015022979607205062975711514479586615627365647259045249356980427496669566841298658654475220327843980266961507067894023373981386645238560041035007238691795448719551552858907407582593577743075436393381113808394296151981955472531667398791207204754295566467878822336347522318119421357662458030956921513061086065683306312130249938021703738338492969366029354252720289556988093509834569866889531519026079393108001737953969011515502726086147088834302981323163043953989309602576313002655428810427550164459858583217496143643837992908804974472847545581961020398384691090495326120078436153912502242707613497186060420068171558267371731092990873257076104657413705719836509388088216173466720236595097953342418185236144610423135712955200081759411392536146689714814688049478463761523376973421455727241534724382650794593321982890349434695405146771426352673175516721660558133555331702836345138883774358097729803367426477941589407360165493102467322505485819891855801776565867880048408089617024020492658373167643233166588133764712278332704994765609022619444024569997708124586450374342889195897867055002237384792968606446755279531393861675798682585997381921740966179663892824480770650604299435153607650091181916393803256719479887639970324852387890010350305369382841740305725101337874596390098254081462218039787641558230974621110676514713267813084139261610127810275263748917513865568953614367789231632549262246883217712878701561708311516437778322607250261092536286283653175716363827251882366753431641708224755911494948743245896785937231516182562650390189136257665118030040450556428905571, 287102457216129958076991932068659348234962624941470923158281775893554511962575363605018525158385059285845298923265739201713965481336283061777105436638619268048231472234924043978033716174250061435612634520551192780929536925483460169174730421635639472442476491958885894764113388129, 214192811549359402002010119890031271076334045042083451013544365153346348283945528844886759561143236626702331219946948332082195988272395828221033887867933333946693999773640887201070036659025555001760084463044540093423891955065676485648319101912435213407792230737942829150336995802236935872297420530115917153113053336158490852167717833766179809530693097704092797681364784774644411658329229292361151973964793197091339889369003253481917691574699732357079105146645249016719399149231897062849498079669123458820129333237883999324814982887732602480788182094589959579462424625920534143980891077327643955443750080270944747976630227715101170183984109093308813800589619388644403971564900904017993567611184872335927587325372686448598373991169281752930332174967448396756995938678128, 8406018112148657073808165264154471260791488035366842083819286635493618705879966849663984075371706978691230363700599375654595983392354693998, 68669705972028, 4500337850585998140, 1852399981, 2053197335281776875820137417391994459636768296959756520385169943990666065006423137568818342872252183108019161806965910724886030890026394353443033880127010060572543402206716259425]
theorem rz_px_eq : rz_sT.map rz_pk = rz_px := by decide +kernel
theorem rz_sT_lt : ∀ l ∈ rz_sT, ∀ c ∈ l, c < 256 := by decide +kernel
noncomputable def rz_chr (i j : Nat) : Nat := Nat.mod (Nat.shiftRight (rz_sel rz_px 0 i) (Nat.mul 8 j)) 256
theorem rz_chr_eq (i j : Nat) : (rz_sB.getD i []).getD j 0 = nI (rz_chr i j) := by
  have h1 : ∀ (l : List (List Nat)) (i : Nat), (l.map rz_pk).getD i 0 = rz_pk (l.getD i []) := by
    intro l i
    rw [List.getD_eq_getElem?_getD, List.getD_eq_getElem?_getD, List.getElem?_map]
    cases l[i]? <;> rfl
  have h2 : ∀ (l : List (List Nat)) (i : Nat), (l.map rz_by).getD i [] = rz_by (l.getD i []) := by
    intro l i
    rw [List.getD_eq_getElem?_getD, List.getD_eq_getElem?_getD, List.getElem?_map]
    cases l[i]? <;> rfl
  have h3 : ∀ (l : List Nat) (i : Nat), (l.map nI).getD i 0 = nI (l.getD i 0) := by
    intro l i
    rw [List.getD_eq_getElem?_getD, List.getD_eq_getElem?_getD, List.getElem?_map]
    cases l[i]? <;> rfl
  have h4 : ∀ c ∈ rz_sT.getD i [], c < 256 := by
    intro c hc
    rw [List.getD_eq_getElem?_getD] at hc
    cases hl : rz_sT[i]? with
    | none => rw [hl] at hc; cases hc
    | some l =>
      rw [hl] at hc
      exact rz_sT_lt l (List.mem_of_getElem? hl) c hc
  have e : rz_chr i j = (rz_pk (rz_sT.getD i []) >>> (8 * j)) % 256 := by
    unfold rz_chr
    rw [rz_sel_eq, ← rz_px_eq, h1]
    rfl
  rw [e, rz_pk_at _ _ h4]
  show ((rz_sT.map rz_by).getD i []).getD j 0 = _
  rw [h2]
  exact h3 _ _
theorem rz_chr_lt (i j : Nat) : rz_chr i j < 256 := Nat.mod_lt _ (by decide)
noncomputable def rz_len (i : Nat) : Nat := rz_sel rz_sL 0 i
theorem rz_len_lt : ∀ i, rz_len i < 2 ^ 31 := by
  intro i
  unfold rz_len
  rw [rz_sel_eq]
  by_cases h : i < 18
  · have : ∀ i, i < 18 → rz_sL.getD i 0 < 2 ^ 31 := by decide +kernel
    exact this i h
  · rw [List.getD_eq_getElem?_getD, List.getElem?_eq_none (by show rz_sL.length ≤ i; have : rz_sL.length = 18 := rfl; omega)]
    decide
section RZSP
variable {G : rz_G} {p : Program} {l : Launch} {e : Env} {R : Room} {s : State} {m : MethodId} {args : Array Value} {below : List Frame} {meth : Method} {c : Code} {Q : State → Prop} {nL pc : Nat} {nz0 : Nat × Nat} {cc : ByteArray} {k : rz_K} {J : rz_J} {Z : rz_Z}
variable {TB : List Cond} {y x : MethodName} {rt rt2 : Option FieldType} {rm rm2 : Room}
noncomputable def rz_at (b : Nat) (v : rz_V) (k : Nat → Bool) : Bool := rz_ref v (fun q => rz_if (Nat.ble b q) (rz_if (Nat.ble q (Nat.add b 17)) (k (Nat.sub q b)) false) false)
theorem rz_at_t {b : Nat} {v : rz_V} {k : Nat → Bool} (h : rz_at b v k = true) : ∃ i, i < 18 ∧ v = rz_r (b + i + 1) ∧ k i = true := by
  replace h := rz_ref_t h
  obtain ⟨q, rfl, h⟩ := h
  rcases rz_if_t h with ⟨g1, h⟩ | ⟨-, h⟩
  · rcases rz_if_t h with ⟨g2, h⟩ | ⟨-, h⟩
    · have g1 := rz_ble.1.mp g1
      have g2 : q ≤ b + 17 := rz_ble.1.mp g2
      refine ⟨q - b, by omega, by rw [show b + (q - b) + 1 = q + 1 by omega], h⟩
    · cases h
  · cases h
noncomputable def rz_tval : rz_B := fun k _ _ L S M => rz_hd S (fun o T => rz_at 1000000 o (fun i => rz_F (Nat.add 2000001 i) (fun z => k L (rz_r z :: T) M)))
noncomputable def rz_tcod : rz_B := fun k _ _ L S M => rz_hd S (fun o T => rz_at 1000000 o (fun _ => k L (rz_i 0 :: T) M))
noncomputable def rz_tlen : rz_B := fun k _ _ L S M => rz_hd S (fun o T => rz_at 2000000 o (fun i => rz_F (rz_len i) (fun z => k L (rz_i z :: T) M)))
noncomputable def rz_tbld : rz_B := fun k _ _ L S M => rz_hd S (fun v R => rz_hd R (fun o T => rz_int v (fun j => rz_at 2000000 o (fun i => rz_if (Nat.ble (rz_len i) j) false (rz_F (rz_chr i j) (fun z => k L (rz_i z :: T) M))))))
theorem rz_tval_ok {own ref : String} {index : Nat} (hx : p.tables.exec = Jvm.exec) (hb : c.code = cc) (hSt : rz_St G s) (hown : s.vm.findClass own = some m.cls) (hlink : (Cond.fieldLink own index ref "value" "[B").before args s = true) (hsame : ∀ x, s.fieldFound? "java/lang/String" "value" "[B" = some x → s.fieldFound? ref "value" "[B" = some x) (hd : decode cc pc = .ok (.getfield index, 3)) (hk : rz_Ok G p l e R s m args below meth c Q nL nz0 (pc + 3) (k)) : rz_Ok G p l e R s m args below meth c Q nL nz0 (pc) (rz_tval k J Z) := by
  intro L S M h ls H locs hL hW hS h0
  replace h := rz_hd_t h
  obtain ⟨o, T, rfl, h⟩ := h
  replace h := rz_at_t h
  obtain ⟨i, hi, rfl, h⟩ := h
  rw [rz_F_eq] at h
  have hz := hk L _ M h ls H locs hL hW hS h0
  have hE := (hSt.1.1 i hi).2.2.1
  have e : rz_v G (rz_r (Nat.add 2000001 i)) = .ref (rz_ad G (2000000 + i)) := by
    rw [show Nat.add 2000001 i = (2000000 + i) + 1 by show 2000001 + i = _; omega]
    rfl
  rw [List.map_cons, e] at hz
  exact vk_getf hx hb hE hS hown hlink hsame hd hz
theorem rz_tcod_ok {own ref : String} {index : Nat} (hx : p.tables.exec = Jvm.exec) (hb : c.code = cc) (hSt : rz_St G s) (hown : s.vm.findClass own = some m.cls) (hlink : (Cond.fieldLink own index ref "coder" "B").before args s = true) (hsame : ∀ x, s.fieldFound? "java/lang/String" "coder" "B" = some x → s.fieldFound? ref "coder" "B" = some x) (hd : decode cc pc = .ok (.getfield index, 3)) (hk : rz_Ok G p l e R s m args below meth c Q nL nz0 (pc + 3) (k)) : rz_Ok G p l e R s m args below meth c Q nL nz0 (pc) (rz_tcod k J Z) := by
  intro L S M h ls H locs hL hW hS h0
  replace h := rz_hd_t h
  obtain ⟨o, T, rfl, h⟩ := h
  replace h := rz_at_t h
  obtain ⟨i, hi, rfl, h⟩ := h
  have hz := hk L _ M h ls H locs hL hW hS h0
  exact vk_getf hx hb (hSt.1.1 i hi).2.1 hS hown hlink hsame hd hz
theorem rz_tlen_ok (hx : p.tables.exec = Jvm.exec) (hb : c.code = cc) (hSt : rz_St G s) (hd : decode cc pc = .ok (.arraylength, 1)) (hk : rz_Ok G p l e R s m args below meth c Q nL nz0 (pc + 1) (k)) : rz_Ok G p l e R s m args below meth c Q nL nz0 (pc) (rz_tlen k J Z) := by
  intro L S M h ls H locs hL hW hS h0
  replace h := rz_hd_t h
  obtain ⟨o, T, rfl, h⟩ := h
  replace h := rz_at_t h
  obtain ⟨i, hi, rfl, h⟩ := h
  rw [rz_F_eq] at h
  have hz := hk L _ M h ls H locs hL hW hS h0
  refine va_tlen hx hb (hSt.1.1 i hi).2.2.2 hS (v := nI (rz_len i)) ?_ hd hz
  unfold rz_len
  rw [rz_sel_eq]
  rfl
theorem rz_tbld_ok (hx : p.tables.exec = Jvm.exec) (hb : c.code = cc) (hSt : rz_St G s) (hd : decode cc pc = .ok (.baload, 1)) (hk : rz_Ok G p l e R s m args below meth c Q nL nz0 (pc + 1) (k)) : rz_Ok G p l e R s m args below meth c Q nL nz0 (pc) (rz_tbld k J Z) := by
  intro L S M h ls H locs hL hW hS h0
  replace h := rz_hd_t h
  obtain ⟨v, R1, rfl, h⟩ := h
  replace h := rz_hd_t h
  obtain ⟨o, T, rfl, h⟩ := h
  replace h := rz_int_t h
  obtain ⟨j, rfl, h⟩ := h
  replace h := rz_at_t h
  obtain ⟨i, hi, rfl, h⟩ := h
  rcases rz_if_t h with ⟨-, h⟩ | ⟨hn, h⟩
  · cases h
  · have hn : ¬ rz_len i ≤ j := rz_ble.2.mp hn
    have hl := rz_len_lt i
    rw [rz_F_eq] at h
    have hz := hk L _ M h ls H locs hL hW hS h0
    have e : rz_sL.getD i 0 = rz_len i := (rz_sel_eq _ _ _).symm
    refine va_tb hx hb (hSt.1.1 i hi).2.2.2 hS (i := nI j) (v := .int (nI (rz_chr i j))) (by rw [e]; exact vp_in_nI (by omega) hl) ?_ hd hz
    rw [nI_clamp (by omega), rz_chr_eq]
-- conversions, answers
noncomputable def rz_i2c : rz_B := fun k _ _ L S M => rz_hd S (fun a U => rz_int a (fun x => rz_F (Nat.mod x 65536) (fun z => k L (rz_i z :: U) M)))
theorem rz_i2c' (x : Nat) : ((nI x).toUInt32 % 65536).toInt32 = nI (Nat.mod x 65536) := by
  apply rz_nI_ext
  show ((nI x).toBitVec % 65536#32).toNat = x % 65536 % 4294967296
  rw [BitVec.toNat_umod, rz_nI_toNat]
  show x % 4294967296 % 65536 = _
  omega
theorem rz_i2c_ok (hx : p.tables.exec = Jvm.exec) (hb : c.code = cc) (hd : decode cc pc = .ok (.i2c, 1)) (hk : rz_Ok G p l e R s m args below meth c Q nL nz0 (pc + 1) (k)) : rz_Ok G p l e R s m args below meth c Q nL nz0 (pc) (rz_i2c k J Z) := by
  intro L S M h ls H locs hL hW hS h0
  replace h := rz_hd_t h
  obtain ⟨a, U, rfl, h⟩ := h
  replace h := rz_int_t h
  obtain ⟨x, rfl, h⟩ := h
  rw [rz_F_eq] at h
  have hz := hk L _ M h ls H locs hL hW hS h0
  exact lv_i2c hx hb hd (rz_i2c' x) hz
noncomputable def rz_cret : rz_B := fun _ _ Z _ S M => rz_hd S (fun v T => rz_int v (fun n => rz_if (Nat.ble n 65535) (rz_nil T (Z v M)) false))
theorem rz_cret_ok {nzq : Nat × Nat} {mc ms : Nat} (hC : rz_Cx G TB y cc nL (some .char) rm p R s m args meth c) (hd : decode cc pc = .ok (.ireturn, 1)) (hz : nz0.1 ≤ mc ∧ nz0.2 ≤ ms := by exact ⟨Nat.le_refl _, Nat.le_refl _⟩) : rz_Ok G p l e R s m args below meth c (MQ below (rz_Qi G nzq Z) args s mc ms (fun q => rz_b G ≤ q)) nL nz0 (pc) (rz_cret k J Z) := by
  obtain ⟨hx, hb, -, hr, hlk, -, -, hKn, -⟩ := hC
  intro L S M h ls H locs hL hW hS h0
  replace h := rz_hd_t h
  obtain ⟨v, T, rfl, h⟩ := h
  replace h := rz_int_t h
  obtain ⟨n, rfl, h⟩ := h
  rcases rz_if_t h with ⟨g, h⟩ | ⟨-, h⟩
  · have g := rz_ble.1.mp g
    obtain ⟨rfl, h⟩ := rz_nil_t h
    refine W.widen hz.1 hz.2 ?_
    exact W.zret (v := nI n) hx hb hr (rz_nar16 (by omega)) (fun t ht hWm => ⟨⟨nI n, (rz_i n, M), rfl, ⟨rfl, h⟩, by rw [ht]; exact hW, h0⟩, hS.F ht⟩) hS.2.2 hd hlk
  · cases h
def rz_Ql (G : rz_G) (nz : Nat × Nat) (Z : rz_Z) : Array Value → State → Outcome → State → Prop := va_Ql (S := rz_V × rz_M) (fun r u => rz_v G u.1 = .long r ∧ Z u.1 u.2 = true) (fun u t => rz_wd G u.2 t.heap ∧ True) (fun q => rz_b G ≤ q)
noncomputable def rz_lret : rz_B := fun _ _ Z _ S M => rz_hd S (fun v T => rz_lng v (fun _ => rz_nil T (Z v M)))
theorem rz_lret_ok {nzq : Nat × Nat} {mc ms : Nat} (hC : rz_Cx G TB y cc nL (some .long) rm p R s m args meth c) (hd : decode cc pc = .ok (.lreturn, 1)) (hz : nz0.1 ≤ mc ∧ nz0.2 ≤ ms := by exact ⟨Nat.le_refl _, Nat.le_refl _⟩) : rz_Ok G p l e R s m args below meth c (MQ below (rz_Ql G nzq Z) args s mc ms (fun q => rz_b G ≤ q)) nL nz0 (pc) (rz_lret k J Z) := by
  obtain ⟨hx, hb, -, hr, hlk, -, -, hKn, -⟩ := hC
  intro L S M h ls H locs hL hW hS h0
  replace h := rz_hd_t h
  obtain ⟨v, T, rfl, h⟩ := h
  replace h := rz_lng_t h
  obtain ⟨n, rfl, h⟩ := h
  obtain ⟨rfl, h⟩ := rz_nil_t h
  refine W.widen hz.1 hz.2 ?_
  exact W.lret (v := lN n) hx hb hr (fun t ht hWm => ⟨⟨lN n, (rz_l n, M), rfl, ⟨rfl, h⟩, by rw [ht]; exact hW, h0⟩, hS.F ht⟩) hS.2.2 hd hlk
-- calls on a constant text
noncomputable def rz_callT (n : Nat) (f : rz_L → rz_M → rz_Z → Bool) : rz_B := fun k _ _ L S M => rz_take n S [] (fun as T => rz_hd T (fun o U => rz_at 1000000 o (fun _ => rz_few U (f (o :: as) M (fun v N => k L (v :: U) N)))))
theorem rz_callT_ok {own : String} {index n maxL mc ms : Nat} {nz1 : Nat × Nat} {bytes : ByteArray} {f : rz_L → rz_M → rz_Z → Bool} (hC : rz_Cx G TB y cc nL rt rm p R s m args meth c) (hown : y.cls = own) (hM : ∀ (vs : rz_L) (M : rz_M) (Z : rz_Z), vs.length = n + 1 → f vs M Z = true → Met l x (.code x bytes maxL rt2 :: TB) rm2 (rz_Pre G vs M) (rz_Qi G M.2 Z) mc ms (fun q => rz_b G ≤ q)) (cw : CallW R s args own "java/lang/String" index x bytes maxL rt2 (.code x bytes maxL rt2 :: TB) rm2 mc ms n) (hd : decode cc pc = .ok (.invokevirtual index, 3)) (hk : rz_Ok G p l e R s m args below meth c Q nL nz1 (pc + 3) (k)) (hz : nz0.1 + mc ≤ nz1.1 ∧ nz0.2 + ms ≤ nz1.2 := by exact ⟨Nat.le_refl _, Nat.le_refl _⟩) (hf : nz1.1 ≤ R.cells ∧ nz1.2 ≤ R.slots := by exact ⟨Nat.zero_le _, Nat.zero_le _⟩) : rz_Ok G p l e R s m args below meth c Q nL nz0 (pc) (rz_callT n f k J Z) := by
  obtain ⟨hx, hb, hml, hr, hlk, ho, hts, hKn, hRm⟩ := hC
  intro L S M h ls H locs hL hW hS h0
  replace h := rz_take_t h
  obtain ⟨as, T1, rfl, hlen, h⟩ := h
  rw [List.append_nil] at h
  replace h := rz_hd_t h
  obtain ⟨o, U, rfl, h⟩ := h
  replace h := rz_at_t h
  obtain ⟨i, hi, rfl, h⟩ := h
  obtain ⟨hfew, h⟩ := rz_few_t h
  have hR := va_runV (e := e) (below := below) (meth := meth) (As := as.map (rz_v G)) (rest := U.map (rz_v G)) (nL := nL) (Ts := Cond.code y cc nL rt :: TB) ⟨hx, hb, hml, by rw [← hown]; exact ho, hts⟩ (hM _ _ _ (by rw [List.length_cons, hlen]) h) cw ⟨rz_blind, vk_recv hKn.2.2.1 hi hS, fun V hV hWm => rz_pre_at (vs := rz_r (1000000 + i + 1) :: as) hKn hW hS hV hWm⟩ (g := F0 m pc ls ((as.reverse ++ rz_r (1000000 + i + 1) :: U).map (rz_v G))) rfl (by rw [List.length_map]; exact hlen) hL.1 (by rw [List.map_append, List.map_reverse, List.map_cons]; rfl) (lv_room (rz_sum G hfew)) hd (locs := locs) (H := H) (cells := nz0.1) (slots := nz0.2) ⟨Nat.le_trans hz.1 hf.1, Nat.le_trans hz.2 hf.2⟩
  refine va_calli hR hS (fun _ _ z => z) (fun _ z => z) (fun r u t H1 locs1 ht hvm hpo hB _ _ hS1 => ?_)
  refine W.widen hz.1 hz.2 ?_
  obtain ⟨u1, u2⟩ := u
  have hz := hk L (u1 :: U) u2 hpo.2 ls H1 locs1 hL (by rw [← ht]; exact hB.1) hS1 trivial
  rw [List.map_cons, hpo.1] at hz
  exact hz
end RZSP
