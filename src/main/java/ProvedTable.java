/**
 * A table told as a text, at which nothing is eaten that has not been proved.
 *
 * Everything is made once, by the constructor: no call makes an object.
 */
public final class ProvedTable {
  public static final int NONE = -1;

  private static final int NO_SUCH = -2;
  private static final int TOO_MANY = -3;
  private static final int BELOW_ZERO = -3;
  private static final int FAULTY = -4;
  private static final int NONE_LEFT = -5;
  private static final int HAS_NOTHING = -6;
  private static final int BEYOND = -7;
  private static final int OTHER_WIDTH = -8;
  // Answers of eats, whose sums the document keeps well apart from its refusals.
  private static final int EATS_NO_SUCH = -100;
  private static final int EATS_NOTHING = -600;

  private static final int MOST_CLAIMS = 12;
  private static final int MOST_STEPS = 12;
  private static final int MOST_GUESTS = 5;
  private static final int MOST_PREMISES = 3;
  private static final int MOST_WORLDS = 16;
  private static final int MOST_FORMS_AROUND = 8;
  private static final int MOST_BYTES = 1600;
  private static final int MOST_NUMBERS = 60;
  private static final int SLOTS = 4;
  private static final int IMAGES = 3;
  private static final int SETS = 4096;
  private static final int LAST_SEED = 2000000000;
  private static final int MOST_SEEDS = 20;

  private final Reader reader;
  private final Table table;
  private final Table draft;
  private final Table[] images;
  private final boolean[] isKept;
  private final Row[] rows;
  // What each set of STEPS PROVES, kept until salt or STEPS change.
  private final Sheet proofSheet;
  private boolean isProofSheetStale;
  private final Sheet scratch;
  private final Reading reading;
  private final Kitchen kitchenRun;
  private final Doubt doubt;

  public ProvedTable() {
    reader = new Reader();
    table = new Table();
    draft = new Table();
    images = new Table[IMAGES];
    isKept = new boolean[IMAGES];
    for (int k = 0; k < IMAGES; k++) {
      images[k] = new Table();
    }
    rows = new Row[SLOTS];
    for (int slot = 0; slot < SLOTS; slot++) {
      rows[slot] = new Row();
    }
    proofSheet = new Sheet();
    isProofSheetStale = true;
    scratch = new Sheet();
    reading = new Reading();
    kitchenRun = new Kitchen();
    doubt = new Doubt();
  }

  // ---- The TAPE and the TABLE ----

  public int feed(int a, int b, int c, int d, int e) {
    if (reader.length + 20 > MOST_BYTES) {
      return NONE;
    }
    reader.append(a);
    reader.append(b);
    reader.append(c);
    reader.append(d);
    reader.append(e);
    return reader.length;
  }

  public int end(int n) {
    if (n < 0 || n > reader.length) {
      return NONE;
    }
    reader.length = n;
    return n;
  }

  public int table() {
    boolean isRead = reader.readTable(draft);
    reader.length = 0;
    if (!isRead) {
      return FAULTY;
    }
    table.copyFrom(draft);
    isProofSheetStale = true;
    return table.lines;
  }

  public int fault(int what) {
    switch (what) {
      case 0:
        return reader.fault;
      case 1:
        return reader.place;
      default:
        return NONE;
    }
  }

  public int claim(int claim, int what) {
    if (!table.hasClaim(claim)) {
      return NO_SUCH;
    }
    switch (what) {
      case 0:
        return table.worth[claim];
      case 1:
        return table.salt >> claim & 1;
      case 2:
        return Integer.bitCount(table.holds[claim]);
      default:
        return NO_SUCH;
    }
  }

  public int holds(int claim) {
    return table.hasClaim(claim) ? table.holds[claim] : NO_SUCH;
  }

  public int step(int step, int what) {
    if (!table.hasStep(step)) {
      return NO_SUCH;
    }
    switch (what) {
      case 0:
        return table.gives[step];
      case 1:
        return table.premises[step];
      case 2:
        return bit(table.falseWorlds(step) == 0);
      default:
        return NO_SUCH;
    }
  }

  public int guest(int guest, int what) {
    if (!table.hasGuest(guest)) {
      return NO_SUCH;
    }
    switch (what) {
      case 0:
        return table.speed[guest];
      case 1:
        return table.knows[guest];
      case 2:
        return table.canDo(guest);
      default:
        return NO_SUCH;
    }
  }

  // ---- WORLDS ----

  public int salted() {
    return table.isTold() ? table.worldsOf(table.salt) : NO_SUCH;
  }

  public int follows(int claim) {
    if (!table.hasClaim(claim)) {
      return NO_SUCH;
    }
    return bit(table.followsFrom(table.salt, claim));
  }

  public int counter(int claim) {
    if (!table.hasClaim(claim)) {
      return NO_SUCH;
    }
    return lowestBit(table.worldsOf(table.salt) & ~table.holds[claim]);
  }

  public int entails(int claim, int other) {
    if (!table.hasClaim(claim) || !table.hasClaim(other)) {
      return NO_SUCH;
    }
    return bit((table.holds[other] & ~table.holds[claim]) == 0);
  }

  public int alike(int claim) {
    if (!table.hasClaim(claim)) {
      return NO_SUCH;
    }
    return table.claimsHoldingIn(table.holds[claim]) & ~(1 << claim);
  }

  public int falsity(int step) {
    return table.hasStep(step) ? lowestBit(table.falseWorlds(step)) : NO_SUCH;
  }

  public int proved() {
    return table.isTold() ? provedByAll() : NO_SUCH;
  }

  public int wrong() {
    return table.isTold() ? provedByAll() & ~table.following() : NO_SUCH;
  }

  public int covered() {
    return table.isTold() ? table.following() & ~provedByAll() : NO_SUCH;
  }

  // ---- READ: a row of STEPS ----

  public int reads(int slot) {
    int refusal = refusalOfSteps(slot);
    if (refusal != 0) {
      return refusal;
    }
    reading.read(table, rows[slot]);
    return reading.going;
  }

  public int why(int slot) {
    int refusal = refusalOfSteps(slot);
    if (refusal != 0) {
      return refusal;
    }
    reading.read(table, rows[slot]);
    return reading.reason;
  }

  public int reached(int slot) {
    int refusal = refusalOfSteps(slot);
    if (refusal != 0) {
      return refusal;
    }
    reading.read(table, rows[slot]);
    return reading.proved;
  }

  public int eats(int slot, int guest) {
    int refusal = table.hasGuest(guest) ? refusalOfSteps(slot) : NO_SUCH;
    if (refusal != 0) {
      return refusal == HAS_NOTHING ? EATS_NOTHING : EATS_NO_SUCH;
    }
    return reading.worthEaten(table, rows[slot], guest);
  }

  public int used(int slot, int claim) {
    int refusal = table.hasClaim(claim) ? refusalOfSteps(slot) : NO_SUCH;
    if (refusal != 0) {
      return refusal;
    }
    reading.read(table, rows[slot]);
    return reading.usedFor[claim];
  }

  public int same(int slot, int other, int claim) {
    if (!table.hasClaim(claim) || !isSlot(slot) || !isSlot(other)) {
      return NO_SUCH;
    }
    if (!rows[slot].isThere || !rows[other].isThere) {
      return HAS_NOTHING;
    }
    if (!rows[slot].areAllBelow(table.steps) || !rows[other].areAllBelow(table.steps)) {
      return NO_SUCH;
    }
    reading.read(table, rows[slot]);
    int usedHere = reading.usedFor[claim];
    reading.read(table, rows[other]);
    return bit(usedHere == reading.usedFor[claim]);
  }

  // ---- PROOFS ----

  public int shortest(int claim) {
    if (!table.hasClaim(claim)) {
      return NO_SUCH;
    }
    return sizeOrNone(shortestSet(claim));
  }

  public int proof(int claim) {
    return table.hasClaim(claim) ? shortestSet(claim) : NO_SUCH;
  }

  public int bite(int claim, int i) {
    if (!table.hasClaim(claim)) {
      return NO_SUCH;
    }
    int set = shortestSet(claim);
    if (set == NONE || i < 0 || i >= Integer.bitCount(set)) {
      return NONE;
    }
    int provedSoFar = table.salt;
    for (int turn = 0; turn < i; turn++) {
      int step = table.firstGoing(set, provedSoFar);
      if (step == NONE) {
        return NONE;
      }
      provedSoFar |= 1 << table.gives[step];
    }
    return table.firstGoing(set, provedSoFar);
  }

  public int proofs(int claim) {
    return table.hasClaim(claim) ? freshProofs().countLeast(table.allSteps(), claim) : NO_SUCH;
  }

  public int needs(int claim) {
    if (!table.hasClaim(claim)) {
      return NO_SUCH;
    }
    if ((provedByAll() >> claim & 1) == 0) {
      return NONE;
    }
    int needed = 0;
    for (int step = 0; step < table.steps; step++) {
      if ((provedWithout(step) >> claim & 1) == 0) {
        needed |= 1 << step;
      }
    }
    return needed;
  }

  public int rests(int step) {
    return table.hasStep(step) ? provedByAll() & ~provedWithout(step) : NO_SUCH;
  }

  // ---- MENUS by hours ----

  public int menu(int guest) {
    return table.hasGuest(guest) ? menuWorth(guest, 0) : NO_SUCH;
  }

  public int course(int guest) {
    return table.hasGuest(guest) ? menuSet(guest, 0) : NO_SUCH;
  }

  public int dishes(int guest) {
    if (!table.hasGuest(guest)) {
      return NO_SUCH;
    }
    return freshProofs().at[menuSet(guest, 0)] & ~table.salt;
  }

  public int takes(int guest, int set) {
    if (!table.hasGuest(guest) || !table.isClaimSet(set)) {
      return NO_SUCH;
    }
    int steps = freshProofs().leastSet(table.knows[guest], set);
    return steps == NONE ? NONE : Integer.bitCount(steps) * table.speed[guest];
  }

  public int who(int claim) {
    return table.hasClaim(claim) ? guestsProving(1 << claim) : NO_SUCH;
  }

  public int host(int set) {
    if (!table.isGuestSet(set)) {
      return NO_SUCH;
    }
    for (int claim = 0; claim < table.claims; claim++) {
      if (guestsProving(1 << claim) == set) {
        return claim;
      }
    }
    return NONE;
  }

  public int lemma(int guest) {
    if (!table.hasGuest(guest)) {
      return NO_SUCH;
    }
    int best = NONE;
    int most = menuWorth(guest, 0);
    for (int claim = 0; claim < table.claims; claim++) {
      int worth = worthWithLemma(guest, claim);
      if (worth > most) {
        best = claim;
        most = worth;
      }
    }
    return best;
  }

  public int brings(int guest) {
    if (!table.hasGuest(guest)) {
      return NO_SUCH;
    }
    int claim = lemma(guest);
    return claim == NONE ? 0 : worthWithLemma(guest, claim) - menuWorth(guest, 0);
  }

  // ---- TEAMS ----

  public int strength(int set) {
    return table.isGuestSet(set) ? table.teamCanDo(set) : NO_SUCH;
  }

  public int together(int set, int claim) {
    if (!table.isGuestSet(set) || !table.hasClaim(claim)) {
      return NO_SUCH;
    }
    return bit(doesTeamProve(set, claim));
  }

  public int fewest(int claim) {
    return table.hasClaim(claim) ? sizeOrNone(leastTeam(claim)) : NO_SUCH;
  }

  public int team(int claim) {
    return table.hasClaim(claim) ? leastTeam(claim) : NO_SUCH;
  }

  // ---- DOUBT ----

  public int claims(int claim, int first) {
    if (!table.hasClaim(claim) || !isBit(first)) {
      return NO_SUCH;
    }
    return table.holds[claim] >> doubt.worldThatComes(table, claim, first) & 1;
  }

  public int outcome(int claim, int first) {
    if (!table.hasClaim(claim) || !isBit(first)) {
      return NO_SUCH;
    }
    return doubt.worldThatComes(table, claim, first);
  }

  // ---- KITCHEN ----

  public int kitchen(int slot, int what) {
    int refusal = what >= 0 && what <= 2 ? refusalOfPairs(slot) : NO_SUCH;
    if (refusal != 0) {
      return refusal;
    }
    kitchenRun.cook(table, rows[slot]);
    switch (what) {
      case 0:
        return kitchenRun.pairs;
      case 1:
        return kitchenRun.lastHour;
      default:
        return table.worthOf(kitchenRun.given & ~table.salt);
    }
  }

  public int when(int slot, int claim) {
    int refusal = table.hasClaim(claim) ? refusalOfPairs(slot) : NO_SUCH;
    if (refusal != 0) {
      return refusal;
    }
    kitchenRun.cook(table, rows[slot]);
    return kitchenRun.hourOf[claim];
  }

  public int shares(int slot, int claim) {
    int refusal = table.hasClaim(claim) ? refusalOfPairs(slot) : NO_SUCH;
    if (refusal != 0) {
      return refusal;
    }
    kitchenRun.cook(table, rows[slot]);
    return kitchenRun.giversOf[claim];
  }

  public int busy(int slot, int guest, int what) {
    int refusal = table.hasGuest(guest) && isBit(what) ? refusalOfPairs(slot) : NO_SUCH;
    if (refusal != 0) {
      return refusal;
    }
    kitchenRun.cook(table, rows[slot]);
    int worked = kitchenRun.workOf[guest];
    return what == 0 ? worked : kitchenRun.throughAt[guest] - worked;
  }

  // ---- DUEL ----

  public int duel() {
    return table.isTold() ? lengthOfDuel() & 1 : NO_SUCH;
  }

  public int move() {
    if (!table.isTold()) {
      return NO_SUCH;
    }
    return (lengthOfDuel() & 1) == 1 ? table.firstGoing(table.allSteps(), table.salt) : NONE;
  }

  public int lasts() {
    return table.isTold() ? lengthOfDuel() : NO_SUCH;
  }

  // ---- What salt says ----

  public int idle() {
    if (!table.isTold()) {
      return NO_SUCH;
    }
    int idlers = 0;
    for (int claim = 0; claim < table.claims; claim++) {
      boolean isSalt = (table.salt >> claim & 1) == 1;
      if (isSalt && table.followsFrom(table.salt & ~(1 << claim), claim)) {
        idlers |= 1 << claim;
      }
    }
    return idlers;
  }

  public int core() {
    return table.isTold() ? sizeOrNone(coreSet()) : NO_SUCH;
  }

  public int cored() {
    return table.isTold() ? coreSet() : NO_SUCH;
  }

  public int likely(int claim, int what) {
    if (!table.hasClaim(claim) || !isBit(what)) {
      return NO_SUCH;
    }
    int worlds = table.worldsOf(table.salt);
    int above = Integer.bitCount(worlds & table.holds[claim]);
    return partOfFraction(above, Integer.bitCount(worlds), what);
  }

  public int ask() {
    if (!table.isTold()) {
      return NO_SUCH;
    }
    int best = NONE;
    int fewestLeft = Integer.bitCount(table.worldsOf(table.salt));
    for (int claim = 0; claim < table.claims; claim++) {
      int left = table.leftAtWorst(claim);
      if (left < fewestLeft) {
        best = claim;
        fewestLeft = left;
      }
    }
    return best;
  }

  public int leaves() {
    if (!table.isTold()) {
      return NO_SUCH;
    }
    int claim = ask();
    return claim == NONE
        ? Integer.bitCount(table.worldsOf(table.salt))
        : table.leftAtWorst(claim);
  }

  public int unlike() {
    if (!table.isTold()) {
      return NO_SUCH;
    }
    int kinds = 0;
    for (int claim = 0; claim < table.claims; claim++) {
      int likeOnesAhead = table.claimsHoldingIn(table.holds[claim]) & ((1 << claim) - 1);
      if (likeOnesAhead == 0) {
        kinds++;
      }
    }
    return kinds;
  }

  // ---- FAMINE ----

  public int falls(int claim) {
    if (!table.hasClaim(claim) || (table.salt >> claim & 1) == 0) {
      return NO_SUCH;
    }
    return provedByAll() & ~table.spread(table.allSteps(), table.salt & ~(1 << claim));
  }

  public int spare(int set) {
    return table.isClaimSet(set) ? sizeOrNone(leastSaltFor(set)) : NO_SUCH;
  }

  public int spared(int set) {
    return table.isClaimSet(set) ? leastSaltFor(set) : NO_SUCH;
  }

  public int salt(int claim, int is) {
    if (!table.hasClaim(claim) || !isBit(is)) {
      return NO_SUCH;
    }
    int was = table.salt >> claim & 1;
    table.salt = withBit(table.salt, claim, is);
    isProofSheetStale = true;
    return was;
  }

  // ---- ATE: a row of CLAIMS ----

  public int ate(int slot) {
    int refusal = refusalOfDishes(slot);
    return refusal != 0 ? refusal : guestsProving(rows[slot].asSet());
  }

  public int borrowed(int slot, int guest) {
    int refusal = table.hasGuest(guest) ? refusalOfDishes(slot) : NO_SUCH;
    if (refusal != 0) {
      return refusal;
    }
    int own = freshProofs().at[table.knows[guest]];
    for (int i = 0; i < rows[slot].n; i++) {
      int claim = (int) rows[slot].numbers[i];
      if ((own >> claim & 1) == 0) {
        return claim;
      }
    }
    return NONE;
  }

  public int lent(int slot, int guest) {
    int refusal = table.hasGuest(guest) ? refusalOfDishes(slot) : NO_SUCH;
    if (refusal != 0) {
      return refusal;
    }
    int dishSet = rows[slot].asSet();
    int own = table.knows[guest];
    int[] provedBy = freshProofs().at;
    if ((dishSet & ~provedBy[own]) == 0) {
      return 0;
    }
    int lenders = 0;
    for (int other = 0; other < table.guests; other++) {
      if ((dishSet & ~provedBy[own | table.knows[other]]) == 0) {
        lenders |= 1 << other;
      }
    }
    return lenders;
  }

  // ---- STEPS told and taken back ----

  public int adds(int claim, int premises) {
    int many = Integer.bitCount(premises);
    if (!table.hasClaim(claim) || !table.isClaimSet(premises)) {
      return NO_SUCH;
    }
    if (many < 1 || many > MOST_PREMISES) {
      return NO_SUCH;
    }
    if (table.steps >= MOST_STEPS) {
      return TOO_MANY;
    }
    table.addStep(claim, premises);
    isProofSheetStale = true;
    return table.steps - 1;
  }

  public int drops() {
    if (!table.isTold()) {
      return NO_SUCH;
    }
    if (table.steps == 0) {
      return NONE_LEFT;
    }
    table.dropStep();
    isProofSheetStale = true;
    return table.steps;
  }

  public int teach(int guest, int step, int is) {
    if (!table.hasGuest(guest) || !table.hasStep(step) || !isBit(is)) {
      return NO_SUCH;
    }
    int was = table.knows[guest] >> step & 1;
    table.knows[guest] = withBit(table.knows[guest], step, is);
    return was;
  }

  // ---- FEASTS with HOLES ----

  public int drawn(int seed) {
    return table.isTold() && isSeed(seed) ? table.holedSteps(seed) : NO_SUCH;
  }

  public int feast(int seed, int guest) {
    if (!table.hasGuest(guest) || !isSeed(seed)) {
      return NO_SUCH;
    }
    return menuWorth(guest, table.holedSteps(seed));
  }

  public int mean(int seed, int n, int guest, int what) {
    if (!table.hasGuest(guest) || !isSeed(seed) || !isBit(what)) {
      return NO_SUCH;
    }
    if (n < 1 || n > MOST_SEEDS) {
      return NO_SUCH;
    }
    int sum = 0;
    for (int i = 0; i < n; i++) {
      sum += menuWorth(guest, table.holedSteps(seed + i));
    }
    return partOfFraction(sum, n, what);
  }

  public int count(int what) {
    switch (what) {
      case 0:
        return table.atoms;
      case 1:
        return table.hours;
      case 2:
        return table.holes;
      case 3:
        return table.claims;
      case 4:
        return table.steps;
      case 5:
        return table.guests;
      case 6:
        return table.lines;
      case 7:
        return reader.length;
      case 8:
        return rowsThere();
      default:
        return NONE;
    }
  }

  // ---- IMAGES ----

  public int image(int k) {
    if (k < 0 || k >= IMAGES) {
      return NO_SUCH;
    }
    images[k].copyFrom(table);
    isKept[k] = true;
    return 0;
  }

  public int back(int k) {
    if (k < 0 || k >= IMAGES) {
      return NO_SUCH;
    }
    if (!isKept[k]) {
      return HAS_NOTHING;
    }
    table.copyFrom(images[k]);
    isProofSheetStale = true;
    return 0;
  }

  // ---- SLOTS ----

  public int row(int slot, int width, int n) {
    if (!isSlot(slot) || width < 0 || width > 3 || n > MOST_NUMBERS) {
      return NO_SUCH;
    }
    if (n < 0) {
      return BELOW_ZERO;
    }
    rows[slot].begin(width, n);
    return 0;
  }

  public int write(int slot, int i, long v) {
    if (!isSlot(slot)) {
      return NO_SUCH;
    }
    if (!rows[slot].isThere) {
      return HAS_NOTHING;
    }
    if (i < 0 || i >= rows[slot].n) {
      return BEYOND;
    }
    rows[slot].numbers[i] = rows[slot].cut(v);
    return 0;
  }

  public int paste(int slot, int i, int to, int k, int n) {
    if (!isSlot(slot) || !isSlot(to)) {
      return NO_SUCH;
    }
    Row from = rows[slot];
    Row into = rows[to];
    if (!from.isThere || !into.isThere) {
      return HAS_NOTHING;
    }
    if (from.width != into.width) {
      return OTHER_WIDTH;
    }
    if (i < 0 || k < 0 || n < 0 || n > from.n - i || n > into.n - k) {
      return BEYOND;
    }
    System.arraycopy(from.numbers, i, into.numbers, k, n);
    return 0;
  }

  // ---- What several promises share ----

  private static int bit(boolean is) {
    return is ? 1 : 0;
  }

  private static boolean isBit(int number) {
    return number == 0 || number == 1;
  }

  private static int withBit(int set, int place, int is) {
    return is == 1 ? set | 1 << place : set & ~(1 << place);
  }

  /** The place of the lowest bit, NONE of an empty set. */
  private static int lowestBit(int set) {
    return set == 0 ? NONE : Integer.bitCount((set & -set) - 1);
  }

  private static int sizeOrNone(int set) {
    return set == NONE ? NONE : Integer.bitCount(set);
  }

  private static boolean isSlot(int slot) {
    return slot >= 0 && slot < SLOTS;
  }

  private static boolean isSeed(int seed) {
    return seed >= 0 && seed <= LAST_SEED;
  }

  private static int greatestDivisor(int a, int b) {
    int one = a;
    int other = b;
    for (int turn = 0; turn < 64 && other != 0; turn++) {
      int rest = one % other;
      one = other;
      other = rest;
    }
    return one;
  }

  private static int partOfFraction(int above, int below, int what) {
    int divisor = greatestDivisor(above, below);
    if (below <= 0 || divisor <= 0) {
      return what == 0 ? 0 : 1;
    }
    return what == 0 ? above / divisor : below / divisor;
  }

  private int rowsThere() {
    int there = 0;
    for (int slot = 0; slot < SLOTS; slot++) {
      if (rows[slot].isThere) {
        there++;
      }
    }
    return there;
  }

  /** 0 if the SLOT's row can be asked with this TABLE, its numbers not yet looked at. */
  private int refusalOfSlot(int slot) {
    if (!table.isTold() || !isSlot(slot)) {
      return NO_SUCH;
    }
    return rows[slot].isThere ? 0 : HAS_NOTHING;
  }

  private int refusalOfSteps(int slot) {
    int refusal = refusalOfSlot(slot);
    if (refusal != 0) {
      return refusal;
    }
    return rows[slot].areAllBelow(table.steps) ? 0 : NO_SUCH;
  }

  private int refusalOfPairs(int slot) {
    int refusal = refusalOfSlot(slot);
    if (refusal != 0) {
      return refusal;
    }
    return rows[slot].arePairsBelow(table.guests, table.steps) ? 0 : NO_SUCH;
  }

  private int refusalOfDishes(int slot) {
    int refusal = refusalOfSlot(slot);
    if (refusal != 0) {
      return refusal;
    }
    if (!rows[slot].areAllBelow(table.claims)) {
      return NO_SUCH;
    }
    return (rows[slot].asSet() & table.salt) == 0 ? 0 : NO_SUCH;
  }

  private Sheet freshProofs() {
    if (isProofSheetStale) {
      proofSheet.fillWithProofs(table, table.allSteps(), table.salt);
      isProofSheetStale = false;
    }
    return proofSheet;
  }

  private int provedByAll() {
    return freshProofs().at[table.allSteps()];
  }

  private int provedWithout(int step) {
    return freshProofs().at[table.allSteps() & ~(1 << step)];
  }

  private int shortestSet(int claim) {
    return freshProofs().leastSet(table.allSteps(), 1 << claim);
  }

  private int menuSet(int guest, int holed) {
    return freshProofs().menuSet(table, table.knows[guest] & ~holed, table.canDo(guest));
  }

  private int menuWorth(int guest, int holed) {
    return table.worthOf(freshProofs().at[menuSet(guest, holed)] & ~table.salt);
  }

  /** Worths of the MENU of a GUEST, were a CLAIM PROVED at first (that CLAIM aside). */
  private int worthWithLemma(int guest, int claim) {
    int start = table.salt | 1 << claim;
    int known = table.knows[guest];
    scratch.fillWithProofs(table, known, start);
    int set = scratch.menuSet(table, known, table.canDo(guest));
    return table.worthOf(scratch.at[set] & ~start);
  }

  /** GUESTS that can PROVE all of a set of CLAIMS within the hours. */
  private int guestsProving(int claimSet) {
    int able = 0;
    for (int guest = 0; guest < table.guests; guest++) {
      int set = freshProofs().leastSet(table.knows[guest], claimSet);
      if (set != NONE && Integer.bitCount(set) <= table.canDo(guest)) {
        able |= 1 << guest;
      }
    }
    return able;
  }

  private boolean doesTeamProve(int guestSet, int claim) {
    int set = freshProofs().leastSet(table.teamKnows(guestSet), 1 << claim);
    return set != NONE && Integer.bitCount(set) <= table.teamCanDo(guestSet);
  }

  private int leastTeam(int claim) {
    int best = NONE;
    int fewestSoFar = MOST_GUESTS + 1;
    for (int set = 0; set < 1 << table.guests; set++) {
      int many = Integer.bitCount(set);
      if (many < fewestSoFar && doesTeamProve(set, claim)) {
        best = set;
        fewestSoFar = many;
      }
    }
    return best;
  }

  /**
   * How many STEPS the DUEL has. Each that goes PROVES one CLAIM more, and it is over when all that
   * can be PROVED is: so however the two play, it has as many STEPS as there are such CLAIMS.
   */
  private int lengthOfDuel() {
    return Integer.bitCount(provedByAll() & ~table.salt);
  }

  private int coreSet() {
    scratch.fillWithRuledOut(table);
    return scratch.leastSet(table.salt, table.allWorlds());
  }

  private int leastSaltFor(int claimSet) {
    scratch.fillWithSaltProofs(table);
    return scratch.leastSet(table.salt, claimSet);
  }

  /** The TABLE as it stands, or as an IMAGE has it; no LINES: there is none. */
  private static final class Table {
    int lines;
    int atoms;
    int hours;
    int holes;
    int claims;
    int steps;
    int guests;
    int salt;
    final int[] worth;
    final int[] holds;
    final int[] gives;
    final int[] premises;
    final int[] speed;
    final int[] knows;

    Table() {
      worth = new int[MOST_CLAIMS];
      holds = new int[MOST_CLAIMS];
      gives = new int[MOST_STEPS];
      premises = new int[MOST_STEPS];
      speed = new int[MOST_GUESTS];
      knows = new int[MOST_GUESTS];
    }

    /** What stands beyond the counts is never looked at, so it may stay. */
    void clear() {
      lines = 0;
      atoms = 0;
      hours = 0;
      holes = 0;
      claims = 0;
      steps = 0;
      guests = 0;
      salt = 0;
    }

    void copyFrom(Table other) {
      lines = other.lines;
      atoms = other.atoms;
      hours = other.hours;
      holes = other.holes;
      claims = other.claims;
      steps = other.steps;
      guests = other.guests;
      salt = other.salt;
      System.arraycopy(other.worth, 0, worth, 0, MOST_CLAIMS);
      System.arraycopy(other.holds, 0, holds, 0, MOST_CLAIMS);
      System.arraycopy(other.gives, 0, gives, 0, MOST_STEPS);
      System.arraycopy(other.premises, 0, premises, 0, MOST_STEPS);
      System.arraycopy(other.speed, 0, speed, 0, MOST_GUESTS);
      System.arraycopy(other.knows, 0, knows, 0, MOST_GUESTS);
    }

    boolean isTold() {
      return lines > 0;
    }

    boolean hasClaim(int claim) {
      return claim >= 0 && claim < claims;
    }

    boolean hasStep(int step) {
      return step >= 0 && step < steps;
    }

    boolean hasGuest(int guest) {
      return guest >= 0 && guest < guests;
    }

    boolean isClaimSet(int set) {
      return isTold() && set >= 0 && set < 1 << claims;
    }

    boolean isGuestSet(int set) {
      return isTold() && set >= 0 && set < 1 << guests;
    }

    int allSteps() {
      return (1 << steps) - 1;
    }

    int allWorlds() {
      return (1 << (1 << atoms)) - 1;
    }

    int worldsOfAtom(int atom) {
      int worlds = 0;
      for (int world = 0; world < 1 << atoms; world++) {
        if ((world >> atom & 1) == 1) {
          worlds |= 1 << world;
        }
      }
      return worlds;
    }

    /** WORLDS in which all of a set of CLAIMS hold. */
    int worldsOf(int claimSet) {
      int worlds = allWorlds();
      for (int claim = 0; claim < claims; claim++) {
        if ((claimSet >> claim & 1) == 1) {
          worlds &= holds[claim];
        }
      }
      return worlds;
    }

    boolean followsFrom(int claimSet, int claim) {
      return (worldsOf(claimSet) & ~holds[claim]) == 0;
    }

    /** CLAIMS that FOLLOW. */
    int following() {
      int worlds = worldsOf(salt);
      int set = 0;
      for (int claim = 0; claim < claims; claim++) {
        if ((worlds & ~holds[claim]) == 0) {
          set |= 1 << claim;
        }
      }
      return set;
    }

    int claimsHoldingIn(int worlds) {
      int set = 0;
      for (int claim = 0; claim < claims; claim++) {
        if (holds[claim] == worlds) {
          set |= 1 << claim;
        }
      }
      return set;
    }

    int falseWorlds(int step) {
      return worldsOf(premises[step]) & ~holds[gives[step]];
    }

    /** SALTED WORLDS that are left if one hears the worse of whether a CLAIM holds. */
    int leftAtWorst(int claim) {
      int worlds = worldsOf(salt);
      int held = Integer.bitCount(worlds & holds[claim]);
      return Math.max(held, Integer.bitCount(worlds) - held);
    }

    boolean goes(int step, int proved) {
      return (premises[step] & ~proved) == 0 && (proved >> gives[step] & 1) == 0;
    }

    int firstGoing(int stepSet, int proved) {
      for (int step = 0; step < steps; step++) {
        if ((stepSet >> step & 1) == 1 && goes(step, proved)) {
          return step;
        }
      }
      return NONE;
    }

    /** What is PROVED when a set of STEPS has gone as far as it goes. */
    int spread(int stepSet, int start) {
      int proved = start;
      boolean isMore = true;
      for (int round = 0; round <= MOST_CLAIMS && isMore; round++) {
        int before = proved;
        for (int step = 0; step < steps; step++) {
          if ((stepSet >> step & 1) == 1 && goes(step, proved)) {
            proved |= 1 << gives[step];
          }
        }
        isMore = proved != before;
      }
      return proved;
    }

    int worthOf(int claimSet) {
      int sum = 0;
      for (int claim = 0; claim < claims; claim++) {
        if ((claimSet >> claim & 1) == 1) {
          sum += worth[claim];
        }
      }
      return sum;
    }

    int canDo(int guest) {
      return speed[guest] > 0 ? hours / speed[guest] : 0;
    }

    int teamCanDo(int guestSet) {
      int sum = 0;
      for (int guest = 0; guest < guests; guest++) {
        if ((guestSet >> guest & 1) == 1) {
          sum += canDo(guest);
        }
      }
      return sum;
    }

    int teamKnows(int guestSet) {
      int set = 0;
      for (int guest = 0; guest < guests; guest++) {
        if ((guestSet >> guest & 1) == 1) {
          set |= knows[guest];
        }
      }
      return set;
    }

    void addStep(int claim, int premiseSet) {
      if (steps < MOST_STEPS) {
        gives[steps] = claim;
        premises[steps] = premiseSet;
        steps++;
      }
    }

    void dropStep() {
      if (steps > 0) {
        steps--;
        for (int guest = 0; guest < guests; guest++) {
          knows[guest] &= ~(1 << steps);
        }
      }
    }

    int holedSteps(int seed) {
      long x = seed;
      int set = 0;
      for (int step = 0; step < steps; step++) {
        x = (1103515245L * x + 12345L) % 2147483648L;
        if (x / 65536L % 100L < holes) {
          set |= 1 << step;
        }
      }
      return set;
    }
  }

  /** The TAPE, and how it is read as a TABLE. */
  private static final class Reader {
    private static final int AT_END = 0;
    private static final int A_WORD = 1;
    private static final int A_NUMBER = 2;
    private static final int A_SIGN = 3;
    private static final int NO_TOKEN = 4;

    private static final int MISPLACED = 1;
    private static final int NOT_AS_SAID = 2;
    private static final int ONE_TOO_MANY = 3;

    private static final int NO_OPERATOR = 0;
    private static final int AND = 1;
    private static final int OR = 2;
    private static final int IF = 3;
    private static final int NOT = 4;

    // Above every bound a number can have, low enough for one digit more.
    private static final int HUGE = 100000;

    final byte[] bytes;
    int length;
    int fault;
    int place;
    private int kind;
    private int start;
    private int stop;
    private int value;

    Reader() {
      bytes = new byte[MOST_BYTES];
      place = NONE;
    }

    void append(int number) {
      for (int shift = 24; shift >= 0 && length < MOST_BYTES; shift -= 8) {
        bytes[length] = (byte) (number >> shift);
        length++;
      }
    }

    /** Whether the TAPE is a TABLE; it is put into the draft, the FAULT is told otherwise. */
    boolean readTable(Table draft) {
      draft.clear();
      fault = 0;
      place = NONE;
      stop = 0;
      advance();
      for (int line = 0; line < MOST_BYTES && kind != AT_END; line++) {
        if (!readLine(draft) || !readSign()) {
          return false;
        }
        draft.lines++;
      }
      return true;
    }

    private boolean readLine(Table draft) {
      if (draft.lines == 0) {
        return readHead(draft);
      }
      if (isWord("claim")) {
        return readClaim(draft);
      }
      if (isWord("salt")) {
        return readSalt(draft);
      }
      if (isWord("step")) {
        return readStep(draft);
      }
      if (isWord("guest")) {
        return readGuest(draft);
      }
      return fail(MISPLACED);
    }

    private boolean readHead(Table draft) {
      if (!readWord("table")) {
        return false;
      }
      draft.atoms = readNamed("atoms", 2, 4);
      if (draft.atoms == NONE) {
        return false;
      }
      draft.hours = readNamed("hours", 1, 99);
      if (draft.hours == NONE) {
        return false;
      }
      draft.holes = readNamed("holes", 0, 100);
      return draft.holes != NONE;
    }

    private boolean readClaim(Table draft) {
      if (draft.claims >= MOST_CLAIMS) {
        return fail(ONE_TOO_MANY);
      }
      advance();
      int worth = readNamed("worth", 0, 99);
      if (worth == NONE) {
        return false;
      }
      int holds = readForm(draft, 0);
      if (holds == NONE) {
        return false;
      }
      draft.worth[draft.claims] = worth;
      draft.holds[draft.claims] = holds;
      draft.claims++;
      return true;
    }

    private boolean readSalt(Table draft) {
      advance();
      if (isNumberOf(draft.claims) && (draft.salt >> value & 1) == 1) {
        return fail(NOT_AS_SAID);
      }
      int claim = readNumber(0, draft.claims - 1);
      if (claim == NONE) {
        return false;
      }
      draft.salt |= 1 << claim;
      return true;
    }

    private boolean readStep(Table draft) {
      if (draft.steps >= MOST_STEPS) {
        return fail(ONE_TOO_MANY);
      }
      advance();
      int claim = readNumber(0, draft.claims - 1);
      if (claim == NONE || !readWord("from")) {
        return false;
      }
      int set = readSet(draft.claims, MOST_PREMISES);
      if (set == NONE) {
        return false;
      }
      draft.addStep(claim, set);
      return true;
    }

    private boolean readGuest(Table draft) {
      if (draft.guests >= MOST_GUESTS) {
        return fail(ONE_TOO_MANY);
      }
      advance();
      int speed = readNamed("speed", 1, 9);
      if (speed == NONE || !readWord("knows")) {
        return false;
      }
      int set = readSet(draft.steps, MOST_STEPS);
      if (set == NONE) {
        return false;
      }
      draft.speed[draft.guests] = speed;
      draft.knows[draft.guests] = set;
      draft.guests++;
      return true;
    }

    /** One number and more, each below a bound, as bits; NONE at a FAULT. */
    private int readSet(int bound, int most) {
      int set = 0;
      for (int i = 0; i < MOST_BYTES && (i == 0 || kind == A_NUMBER); i++) {
        if (isNumberOf(bound) && Integer.bitCount(set | 1 << value) > most) {
          fail(ONE_TOO_MANY);
          return NONE;
        }
        int number = readNumber(0, bound - 1);
        if (number == NONE) {
          return NONE;
        }
        set |= 1 << number;
      }
      return set;
    }

    /** The WORLDS in which the FORM that stands here holds; NONE at a FAULT. */
    private int readForm(Table draft, int formsAround) {
      int holds = worldsOfLeaf(draft);
      int operator = operatorHere();
      if (holds == NONE && operator == NO_OPERATOR) {
        fail(MISPLACED);
        return NONE;
      }
      if (formsAround >= MOST_FORMS_AROUND) {
        fail(ONE_TOO_MANY);
        return NONE;
      }
      advance();
      return operator == NO_OPERATOR ? holds : readParts(draft, operator, formsAround + 1);
    }

    /** The FORMS behind a word that joins them, and the WORLDS of the whole. */
    private int readParts(Table draft, int operator, int formsAround) {
      int one = readForm(draft, formsAround);
      if (one == NONE || operator == NOT) {
        return one == NONE ? NONE : draft.allWorlds() & ~one;
      }
      int other = readForm(draft, formsAround);
      if (other == NONE) {
        return NONE;
      }
      switch (operator) {
        case AND:
          return one & other;
        case OR:
          return one | other;
        default:
          return draft.allWorlds() & (~one | other);
      }
    }

    /** The WORLDS of yes, no or an atom that there is; NONE if it is none of these. */
    private int worldsOfLeaf(Table draft) {
      if (isWord("yes")) {
        return draft.allWorlds();
      }
      if (isWord("no")) {
        return 0;
      }
      if (kind == A_WORD && stop - start == 1) {
        int atom = bytes[start] - 'a';
        return atom < draft.atoms ? draft.worldsOfAtom(atom) : NONE;
      }
      return NONE;
    }

    private int operatorHere() {
      if (isWord("and")) {
        return AND;
      }
      if (isWord("or")) {
        return OR;
      }
      if (isWord("if")) {
        return IF;
      }
      return isWord("not") ? NOT : NO_OPERATOR;
    }

    private boolean readSign() {
      if (kind != A_SIGN) {
        return fail(MISPLACED);
      }
      advance();
      return true;
    }

    private boolean readWord(String word) {
      if (!isWord(word)) {
        return fail(MISPLACED);
      }
      advance();
      return true;
    }

    /** A word and the number behind it; NONE at a FAULT. */
    private int readNamed(String word, int least, int most) {
      return readWord(word) ? readNumber(least, most) : NONE;
    }

    private int readNumber(int least, int most) {
      if (kind != A_NUMBER) {
        fail(MISPLACED);
        return NONE;
      }
      int number = value;
      if (number < least || number > most) {
        fail(NOT_AS_SAID);
        return NONE;
      }
      advance();
      return number;
    }

    private boolean isNumberOf(int bound) {
      return kind == A_NUMBER && value < bound;
    }

    private boolean isWord(String word) {
      if (kind != A_WORD || stop - start != word.length()) {
        return false;
      }
      for (int i = 0; i < word.length(); i++) {
        if (bytes[start + i] != word.charAt(i)) {
          return false;
        }
      }
      return true;
    }

    private boolean fail(int which) {
      fault = which;
      place = start;
      return false;
    }

    /** The next TOKEN, the longest, from where the last one stopped. */
    private void advance() {
      int at = stop;
      while (at < length && (bytes[at] == ' ' || bytes[at] == '\n')) {
        at++;
      }
      start = at;
      kind = kindAt(at);
      value = 0;
      if (kind == A_WORD || kind == A_NUMBER) {
        while (at < length && kindAt(at) == kind) {
          value = kind == A_NUMBER ? Math.min(HUGE, value * 10 + bytes[at] - '0') : 0;
          at++;
        }
      } else if (kind != AT_END) {
        at++;
      }
      stop = at;
    }

    private int kindAt(int at) {
      if (at >= length) {
        return AT_END;
      }
      int sign = bytes[at];
      if (sign >= 'a' && sign <= 'z') {
        return A_WORD;
      }
      if (sign >= '0' && sign <= '9') {
        return A_NUMBER;
      }
      return sign == ';' ? A_SIGN : NO_TOKEN;
    }
  }

  /** A SLOT's row of numbers. */
  private static final class Row {
    boolean isThere;
    int width;
    int n;
    final long[] numbers;

    Row() {
      numbers = new long[MOST_NUMBERS];
    }

    void begin(int widthNow, int many) {
      isThere = true;
      width = widthNow;
      n = many;
      for (int i = 0; i < MOST_NUMBERS; i++) {
        numbers[i] = 0L;
      }
    }

    long cut(long v) {
      switch (width) {
        case 0:
          return (byte) v;
        case 1:
          return (short) v;
        case 2:
          return (int) v;
        default:
          return v;
      }
    }

    boolean areAllBelow(int bound) {
      for (int i = 0; i < n; i++) {
        if (numbers[i] < 0L || numbers[i] >= bound) {
          return false;
        }
      }
      return true;
    }

    /** Whether these are two numbers each, the first and the second below their bounds. */
    boolean arePairsBelow(int firstBound, int secondBound) {
      for (int i = 0; i < n; i++) {
        int bound = (i & 1) == 0 ? firstBound : secondBound;
        if (numbers[i] < 0L || numbers[i] >= bound) {
          return false;
        }
      }
      return (n & 1) == 0;
    }

    /** The numbers as bits, where all are known to be small. */
    int asSet() {
      int set = 0;
      for (int i = 0; i < n; i++) {
        set |= 1 << (int) numbers[i];
      }
      return set;
    }
  }

  /** A number for each subset of some whole; its index is the subset, as bits. */
  private static final class Sheet {
    final int[] at;

    Sheet() {
      at = new int[SETS];
    }

    private static int subsetsOf(int whole) {
      return 1 << Integer.bitCount(whole);
    }

    /** The subset that is next above one, the empty one behind the last. */
    private static int subsetBehind(int set, int whole) {
      return (set - whole) & whole;
    }

    private static int withoutLowest(int set) {
      return set & (set - 1);
    }

    /** For subsets of some STEPS: what they PROVE, if a start is PROVED at first. */
    void fillWithProofs(Table table, int steps, int start) {
      at[0] = start;
      int set = 0;
      for (int i = 1; i < subsetsOf(steps); i++) {
        set = subsetBehind(set, steps);
        int proved = at[withoutLowest(set)];
        // All but its lowest STEP have gone as far as they go: without it nothing is new.
        at[set] = table.goes(lowestBit(set), proved) ? table.spread(set, proved) : proved;
      }
    }

    /** For subsets of the salt: the CLAIMS that all STEPS PROVE from them alone. */
    void fillWithSaltProofs(Table table) {
      at[0] = table.spread(table.allSteps(), 0);
      int set = 0;
      for (int i = 1; i < subsetsOf(table.salt); i++) {
        set = subsetBehind(set, table.salt);
        at[set] = table.spread(table.allSteps(), at[withoutLowest(set)] | set);
      }
    }

    /** For subsets of the salt: the WORLDS in which some of them does not hold. */
    void fillWithRuledOut(Table table) {
      at[0] = 0;
      int set = 0;
      for (int i = 1; i < subsetsOf(table.salt); i++) {
        set = subsetBehind(set, table.salt);
        at[set] = at[withoutLowest(set)] | (table.allWorlds() & ~table.holds[lowestBit(set)]);
      }
    }

    /** The smallest subset, the least of these, that has all that is wanted; or NONE. */
    int leastSet(int whole, int wanted) {
      if ((wanted & ~at[whole]) != 0) {
        return NONE;
      }
      int best = whole;
      int set = 0;
      for (int i = 0; i < subsetsOf(whole); i++) {
        boolean hasAll = (wanted & ~at[set]) == 0;
        if (hasAll && Integer.bitCount(set) < Integer.bitCount(best)) {
          best = set;
        }
        set = subsetBehind(set, whole);
      }
      return best;
    }

    /** How many subsets have a CLAIM that none of them has with one left out. */
    int countLeast(int whole, int claim) {
      int many = 0;
      int set = 0;
      for (int i = 0; i < subsetsOf(whole); i++) {
        if ((at[set] >> claim & 1) == 1 && isLeast(set, claim)) {
          many++;
        }
        set = subsetBehind(set, whole);
      }
      return many;
    }

    private boolean isLeast(int set, int claim) {
      for (int one = 0; one < MOST_STEPS; one++) {
        boolean isIn = (set >> one & 1) == 1;
        if (isIn && (at[set & ~(1 << one)] >> claim & 1) == 1) {
          return false;
        }
      }
      return true;
    }

    /** The MENU's set: the most worth beyond what was PROVED at first, the smallest, the least. */
    int menuSet(Table table, int whole, int most) {
      int best = 0;
      int bestWorth = 0;
      int set = 0;
      for (int i = 0; i < subsetsOf(whole); i++) {
        int eaten = at[set] & ~at[0];
        int many = Integer.bitCount(set);
        // A set with a STEP that does not go is never the smallest for its worth.
        if (many <= most && many == Integer.bitCount(eaten)) {
          int worth = table.worthOf(eaten);
          boolean isSmaller = worth == bestWorth && many < Integer.bitCount(best);
          if (worth > bestWorth || isSmaller) {
            best = set;
            bestWorth = worth;
          }
        }
        set = subsetBehind(set, whole);
      }
      return best;
    }
  }

  /** How a row of STEPS is READ. */
  private static final class Reading {
    private static final int ALL_GO = 0;
    private static final int NOT_PROVED = 1;
    private static final int PROVED_ALREADY = 2;

    int going;
    int reason;
    int proved;
    final int[] usedFor;

    Reading() {
      usedFor = new int[MOST_CLAIMS];
    }

    /** The row's numbers are STEPS; looked at again, as they stand in the SLOT. */
    void read(Table table, Row row) {
      going = 0;
      reason = ALL_GO;
      proved = table.salt;
      for (int claim = 0; claim < MOST_CLAIMS; claim++) {
        usedFor[claim] = 0;
      }
      for (int i = 0; i < row.n && reason == ALL_GO; i++) {
        int step = (int) row.numbers[i];
        reason = reasonAgainst(table, step);
        if (reason == ALL_GO) {
          usedFor[table.gives[step]] = 1 << step | usedForAll(table, table.premises[step]);
          proved |= 1 << table.gives[step];
          going++;
        }
      }
    }

    private int reasonAgainst(Table table, int step) {
      if ((table.premises[step] & ~proved) != 0) {
        return NOT_PROVED;
      }
      return (proved >> table.gives[step] & 1) == 1 ? PROVED_ALREADY : ALL_GO;
    }

    private int usedForAll(Table table, int claimSet) {
      int set = 0;
      for (int claim = 0; claim < table.claims; claim++) {
        if ((claimSet >> claim & 1) == 1) {
          set |= usedFor[claim];
        }
      }
      return set;
    }

    int worthEaten(Table table, Row row, int guest) {
      int eatenAndSalt = table.salt;
      int most = Math.min(row.n, table.canDo(guest));
      for (int i = 0; i < most; i++) {
        int step = (int) row.numbers[i];
        boolean isKnown = (table.knows[guest] >> step & 1) == 1;
        if (!isKnown || !table.goes(step, eatenAndSalt)) {
          break;
        }
        eatenAndSalt |= 1 << table.gives[step];
      }
      return table.worthOf(eatenAndSalt & ~table.salt);
    }
  }

  /** How a row of GUESTS and STEPS is cooked. */
  private static final class Kitchen {
    int pairs;
    int lastHour;
    int given;
    final int[] hourOf;
    final int[] giversOf;
    final int[] throughAt;
    final int[] workOf;

    Kitchen() {
      hourOf = new int[MOST_CLAIMS];
      giversOf = new int[MOST_CLAIMS];
      throughAt = new int[MOST_GUESTS];
      workOf = new int[MOST_GUESTS];
    }

    /** The row's numbers are pairs of a GUEST and a STEP. */
    void cook(Table table, Row row) {
      open(table);
      boolean goesOn = true;
      for (int i = 0; i + 1 < row.n && goesOn; i += 2) {
        goesOn = cookPair(table, (int) row.numbers[i], (int) row.numbers[i + 1]);
      }
    }

    private void open(Table table) {
      pairs = 0;
      lastHour = 0;
      given = 0;
      for (int claim = 0; claim < MOST_CLAIMS; claim++) {
        hourOf[claim] = (table.salt >> claim & 1) == 1 ? 0 : NONE;
        giversOf[claim] = 0;
      }
      for (int guest = 0; guest < MOST_GUESTS; guest++) {
        throughAt[guest] = 0;
        workOf[guest] = 0;
      }
    }

    private boolean cookPair(Table table, int guest, int step) {
      int ready = hourOfAll(table, table.premises[step]);
      if (ready == NONE || (table.knows[guest] >> step & 1) == 0) {
        return false;
      }
      int through = Math.max(ready, throughAt[guest]) + table.speed[guest];
      if (through > table.hours) {
        return false;
      }
      give(table.gives[step], guest, through);
      throughAt[guest] = through;
      workOf[guest] += table.speed[guest];
      lastHour = Math.max(lastHour, through);
      pairs++;
      return true;
    }

    /** The hour at which all of a set are PROVED, NONE if some are not. */
    private int hourOfAll(Table table, int claimSet) {
      int hour = 0;
      for (int claim = 0; claim < table.claims; claim++) {
        if ((claimSet >> claim & 1) == 1) {
          if (hourOf[claim] == NONE) {
            return NONE;
          }
          hour = Math.max(hour, hourOf[claim]);
        }
      }
      return hour;
    }

    private void give(int claim, int guest, int hour) {
      given |= 1 << claim;
      giversOf[claim] |= 1 << guest;
      if (hourOf[claim] == NONE || hour < hourOf[claim]) {
        hourOf[claim] = hour;
      }
    }
  }

  /** One who claims and one who doubts. */
  private static final class Doubt {
    private final int[] worldFrom;

    Doubt() {
      worldFrom = new int[MOST_WORLDS];
    }

    /** Told back to front: what comes of each beginning, till the empty one is left. */
    int worldThatComes(Table table, int claim, int first) {
      for (int world = 0; world < MOST_WORLDS; world++) {
        worldFrom[world] = world;
      }
      for (int atom = table.atoms - 1; atom >= 0; atom--) {
        int wanted = (atom & 1) == first ? 1 : 0;
        for (int told = 0; told < 1 << atom; told++) {
          int without = worldFrom[told];
          int with = worldFrom[told | 1 << atom];
          boolean isWithoutGood = (table.holds[claim] >> without & 1) == wanted;
          boolean isWithGood = (table.holds[claim] >> with & 1) == wanted;
          worldFrom[told] = !isWithoutGood && isWithGood ? with : without;
        }
      }
      return worldFrom[0];
    }
  }
}
