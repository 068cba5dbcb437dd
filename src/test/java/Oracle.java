import java.math.BigInteger;
import java.util.ArrayList;
import java.util.Arrays;
import java.util.HashMap;
import java.util.List;
import java.util.Map;
import java.util.TreeSet;

/**
 * The document once more, as slowly and as literally as can be: FORMS are trees, sets are tried
 * one by one, games are played out. ProvedTable is compared with it call by call.
 */
public final class Oracle {
  public static final int NONE = -1;

  private static final class Form {
    final String word;
    final List<Form> parts = new ArrayList<>();

    Form(String word) {
      this.word = word;
    }

    boolean holds(int world) {
      switch (word) {
        case "and":
          return parts.get(0).holds(world) && parts.get(1).holds(world);
        case "or":
          return parts.get(0).holds(world) || parts.get(1).holds(world);
        case "if":
          return !parts.get(0).holds(world) || parts.get(1).holds(world);
        case "not":
          return !parts.get(0).holds(world);
        case "yes":
          return true;
        case "no":
          return false;
        default:
          return (world >> (word.charAt(0) - 'a')) % 2 == 1;
      }
    }
  }

  private static final class Claim {
    int worth;
    Form form;
    boolean isSalt;
  }

  private static final class Step {
    int gives;
    TreeSet<Integer> from = new TreeSet<>();
  }

  private static final class Guest {
    int speed;
    TreeSet<Integer> knows = new TreeSet<>();
  }

  private static final class Model {
    int atoms;
    int hours;
    int holes;
    int lines;
    List<Claim> claims = new ArrayList<>();
    List<Step> steps = new ArrayList<>();
    List<Guest> guests = new ArrayList<>();

    Model copy() {
      Model other = new Model();
      other.atoms = atoms;
      other.hours = hours;
      other.holes = holes;
      other.lines = lines;
      for (Claim claim : claims) {
        Claim c = new Claim();
        c.worth = claim.worth;
        c.form = claim.form;
        c.isSalt = claim.isSalt;
        other.claims.add(c);
      }
      for (Step step : steps) {
        Step s = new Step();
        s.gives = step.gives;
        s.from.addAll(step.from);
        other.steps.add(s);
      }
      for (Guest guest : guests) {
        Guest g = new Guest();
        g.speed = guest.speed;
        g.knows.addAll(guest.knows);
        other.guests.add(g);
      }
      return other;
    }
  }

  private record Token(String text, int place) {
    boolean isWord() {
      return text.matches("[a-z]+");
    }

    boolean isNumber() {
      return text.matches("[0-9]+");
    }
  }

  private static final class Fault extends Exception {
    private static final long serialVersionUID = 1L;
    final int kind;
    final int place;

    Fault(int kind, int place) {
      this.kind = kind;
      this.place = place;
    }
  }

  /** Reads TOKENS that were cut out of the whole TAPE ahead. */
  private static final class Parser {
    final List<Token> tokens = new ArrayList<>();
    int next;
    final Model model = new Model();

    Parser(List<Byte> tape) {
      StringBuilder text = new StringBuilder();
      for (byte b : tape) {
        text.append((char) (b & 255));
      }
      java.util.regex.Matcher matcher =
          java.util.regex.Pattern.compile("[a-z]+|[0-9]+|[^ \\n]", java.util.regex.Pattern.DOTALL)
              .matcher(text);
      while (matcher.find()) {
        tokens.add(new Token(matcher.group(), matcher.start()));
      }
      tokens.add(new Token("", tape.size()));
    }

    Token here() {
      return tokens.get(next);
    }

    Fault fault(int kind) {
      return new Fault(kind, here().place());
    }

    void word(String word) throws Fault {
      if (!here().text().equals(word)) {
        throw fault(1);
      }
      next++;
    }

    int number(int least, int most) throws Fault {
      if (!here().isNumber()) {
        throw fault(1);
      }
      BigInteger value = new BigInteger(here().text());
      if (value.compareTo(BigInteger.valueOf(least)) < 0
          || value.compareTo(BigInteger.valueOf(most)) > 0) {
        throw fault(2);
      }
      return value.intValue();
    }

    int numberTaken(int least, int most) throws Fault {
      int value = number(least, most);
      next++;
      return value;
    }

    Form form(int around) throws Fault {
      String word = here().text();
      List<String> all = new ArrayList<>(List.of("and", "or", "if", "not", "yes", "no"));
      all.addAll(List.of("a", "b", "c", "d").subList(0, model.atoms));
      if (!all.contains(word)) {
        throw fault(1);
      }
      if (around == 8) {
        throw fault(3);
      }
      Form form = new Form(word);
      next++;
      int parts = List.of("and", "or", "if").contains(word) ? 2 : word.equals("not") ? 1 : 0;
      for (int i = 0; i < parts; i++) {
        form.parts.add(form(around + 1));
      }
      return form;
    }

    void line() throws Fault {
      String word = here().text();
      if (model.lines == 0) {
        word("table");
        word("atoms");
        model.atoms = numberTaken(2, 4);
        word("hours");
        model.hours = numberTaken(1, 99);
        word("holes");
        model.holes = numberTaken(0, 100);
      } else if (word.equals("claim")) {
        if (model.claims.size() == 12) {
          throw fault(3);
        }
        next++;
        Claim claim = new Claim();
        word("worth");
        claim.worth = numberTaken(0, 99);
        claim.form = form(0);
        model.claims.add(claim);
      } else if (word.equals("salt")) {
        next++;
        int claim = number(0, model.claims.size() - 1);
        if (model.claims.get(claim).isSalt) {
          throw fault(2);
        }
        model.claims.get(claim).isSalt = true;
        next++;
      } else if (word.equals("step")) {
        if (model.steps.size() == 12) {
          throw fault(3);
        }
        next++;
        Step step = new Step();
        step.gives = numberTaken(0, model.claims.size() - 1);
        word("from");
        do {
          step.from.add(number(0, model.claims.size() - 1));
          if (step.from.size() > 3) {
            throw fault(3);
          }
          next++;
        } while (here().isNumber());
        model.steps.add(step);
      } else if (word.equals("guest")) {
        if (model.guests.size() == 5) {
          throw fault(3);
        }
        next++;
        Guest guest = new Guest();
        word("speed");
        guest.speed = numberTaken(1, 9);
        word("knows");
        do {
          guest.knows.add(numberTaken(0, model.steps.size() - 1));
        } while (here().isNumber());
        model.guests.add(guest);
      } else {
        throw fault(1);
      }
      word(";");
      model.lines++;
    }

    Model read() throws Fault {
      while (next < tokens.size() - 1) {
        line();
      }
      return model;
    }
  }

  private final List<Byte> tape = new ArrayList<>();
  private Model m = new Model();
  private int faultKind = 0;
  private int faultPlace = NONE;
  private final Model[] images = new Model[3];
  private final long[][] rows = new long[4][];
  private final int[] widths = new int[4];

  // ---- sets and small parts ----

  private static int bits(Iterable<Integer> set) {
    int bits = 0;
    for (int one : set) {
      bits |= 1 << one;
    }
    return bits;
  }

  private static TreeSet<Integer> setOf(int bits) {
    TreeSet<Integer> set = new TreeSet<>();
    for (int i = 0; i < 31; i++) {
      if ((bits >> i & 1) == 1) {
        set.add(i);
      }
    }
    return set;
  }

  /** All subsets of a set: smaller ones first, of one size the least first. */
  private static List<TreeSet<Integer>> subsets(TreeSet<Integer> whole) {
    List<Integer> all = new ArrayList<>();
    int bits = bits(whole);
    for (int i = 0; i <= bits; i++) {
      if ((i & bits) == i) {
        all.add(i);
      }
    }
    all.sort((x, y) -> Integer.bitCount(x) != Integer.bitCount(y)
        ? Integer.compare(Integer.bitCount(x), Integer.bitCount(y)) : Integer.compare(x, y));
    List<TreeSet<Integer>> sets = new ArrayList<>();
    for (int i : all) {
      sets.add(setOf(i));
    }
    return sets;
  }

  private boolean told() {
    return m.lines > 0;
  }

  private boolean c(int claim) {
    return claim >= 0 && claim < m.claims.size();
  }

  private boolean s(int step) {
    return step >= 0 && step < m.steps.size();
  }

  private boolean g(int guest) {
    return guest >= 0 && guest < m.guests.size();
  }

  private boolean claimSet(int set) {
    return told() && set >= 0 && set < Math.pow(2, m.claims.size());
  }

  private boolean guestSet(int set) {
    return told() && set >= 0 && set < Math.pow(2, m.guests.size());
  }

  private int worlds() {
    return (int) Math.pow(2, m.atoms);
  }

  private boolean holdsIn(int claim, int world) {
    return m.claims.get(claim).form.holds(world);
  }

  private boolean allHold(Iterable<Integer> claims, int world) {
    for (int claim : claims) {
      if (!holdsIn(claim, world)) {
        return false;
      }
    }
    return true;
  }

  private TreeSet<Integer> saltSet() {
    TreeSet<Integer> set = new TreeSet<>();
    for (int i = 0; i < m.claims.size(); i++) {
      if (m.claims.get(i).isSalt) {
        set.add(i);
      }
    }
    return set;
  }

  private TreeSet<Integer> allSteps() {
    TreeSet<Integer> set = new TreeSet<>();
    for (int i = 0; i < m.steps.size(); i++) {
      set.add(i);
    }
    return set;
  }

  private TreeSet<Integer> saltedWorlds() {
    TreeSet<Integer> set = new TreeSet<>();
    for (int world = 0; world < worlds(); world++) {
      if (allHold(saltSet(), world)) {
        set.add(world);
      }
    }
    return set;
  }

  private boolean goes(int step, TreeSet<Integer> proved) {
    Step it = m.steps.get(step);
    return proved.containsAll(it.from) && !proved.contains(it.gives);
  }

  /** One by one, the last one that goes first, which is as good as any other order. */
  private TreeSet<Integer> provedBy(TreeSet<Integer> steps, TreeSet<Integer> first) {
    TreeSet<Integer> proved = new TreeSet<>(first);
    boolean went = true;
    while (went) {
      went = false;
      for (int step : steps.descendingSet()) {
        if (goes(step, proved)) {
          proved.add(m.steps.get(step).gives);
          went = true;
          break;
        }
      }
    }
    return proved;
  }

  private int canDo(int guest) {
    return m.hours / m.guests.get(guest).speed;
  }

  private int worthOf(Iterable<Integer> claims) {
    int sum = 0;
    for (int claim : claims) {
      sum += m.claims.get(claim).worth;
    }
    return sum;
  }

  /** The SHORTEST set of what is allowed by which all that is wanted is PROVED, or null. */
  private TreeSet<Integer> shortestSet(TreeSet<Integer> allowed, TreeSet<Integer> wanted) {
    for (TreeSet<Integer> set : subsets(allowed)) {
      if (provedBy(set, saltSet()).containsAll(wanted)) {
        return set;
      }
    }
    return null;
  }

  private TreeSet<Integer> shortestSet(int claim) {
    return shortestSet(allSteps(), setOf(1 << claim));
  }

  private static TreeSet<Integer> minus(TreeSet<Integer> set, Iterable<Integer> less) {
    TreeSet<Integer> rest = new TreeSet<>(set);
    for (int one : less) {
      rest.remove(one);
    }
    return rest;
  }

  private static int fraction(int above, int below, int what) {
    if (below == 0) {
      return what;
    }
    int divisor = BigInteger.valueOf(above).gcd(BigInteger.valueOf(below)).intValue();
    return (what == 0 ? above : below) / divisor;
  }

  // ---- the face ----

  public int feed(int a, int b, int c, int d, int e) {
    if (tape.size() + 20 > 1600) {
      return -1;
    }
    for (int number : new int[] {a, b, c, d, e}) {
      for (byte one : java.nio.ByteBuffer.allocate(4).putInt(number).array()) {
        tape.add(one);
      }
    }
    return tape.size();
  }

  public int end(int n) {
    if (n < 0 || n > tape.size()) {
      return -1;
    }
    while (tape.size() > n) {
      tape.remove(tape.size() - 1);
    }
    return n;
  }

  public int table() {
    try {
      m = new Parser(tape).read();
      faultKind = 0;
      faultPlace = -1;
      tape.clear();
      return m.lines;
    } catch (Fault fault) {
      faultKind = fault.kind;
      faultPlace = fault.place;
      tape.clear();
      return -4;
    }
  }

  public int fault(int what) {
    return what == 0 ? faultKind : what == 1 ? faultPlace : -1;
  }

  public int claim(int claim, int what) {
    if (!c(claim) || what < 0 || what > 2) {
      return -2;
    }
    return what == 0 ? m.claims.get(claim).worth
        : what == 1 ? (m.claims.get(claim).isSalt ? 1 : 0) : Integer.bitCount(holds(claim));
  }

  public int holds(int claim) {
    if (!c(claim)) {
      return -2;
    }
    int bits = 0;
    for (int world = 0; world < worlds(); world++) {
      bits |= holdsIn(claim, world) ? 1 << world : 0;
    }
    return bits;
  }

  public int step(int step, int what) {
    if (!s(step) || what < 0 || what > 2) {
      return -2;
    }
    return what == 0 ? m.steps.get(step).gives
        : what == 1 ? bits(m.steps.get(step).from) : falsity(step) == -1 ? 1 : 0;
  }

  public int guest(int guest, int what) {
    if (!g(guest) || what < 0 || what > 2) {
      return -2;
    }
    return what == 0 ? m.guests.get(guest).speed
        : what == 1 ? bits(m.guests.get(guest).knows) : canDo(guest);
  }

  public int salted() {
    return told() ? bits(saltedWorlds()) : -2;
  }

  public int follows(int claim) {
    return c(claim) ? (counter(claim) == -1 ? 1 : 0) : -2;
  }

  public int counter(int claim) {
    if (!c(claim)) {
      return -2;
    }
    for (int world : saltedWorlds()) {
      if (!holdsIn(claim, world)) {
        return world;
      }
    }
    return -1;
  }

  public int entails(int claim, int other) {
    if (!c(claim) || !c(other)) {
      return -2;
    }
    for (int world = 0; world < worlds(); world++) {
      if (holdsIn(other, world) && !holdsIn(claim, world)) {
        return 0;
      }
    }
    return 1;
  }

  public int alike(int claim) {
    if (!c(claim)) {
      return -2;
    }
    int bits = 0;
    for (int other = 0; other < m.claims.size(); other++) {
      bits |= other != claim && holds(other) == holds(claim) ? 1 << other : 0;
    }
    return bits;
  }

  public int falsity(int step) {
    if (!s(step)) {
      return -2;
    }
    for (int world = 0; world < worlds(); world++) {
      if (allHold(m.steps.get(step).from, world) && !holdsIn(m.steps.get(step).gives, world)) {
        return world;
      }
    }
    return -1;
  }

  public int proved() {
    return told() ? bits(provedBy(allSteps(), saltSet())) : -2;
  }

  private int following() {
    int bits = 0;
    for (int claim = 0; claim < m.claims.size(); claim++) {
      bits |= follows(claim) << claim;
    }
    return bits;
  }

  public int wrong() {
    return told() ? proved() & ~following() : -2;
  }

  public int covered() {
    return told() ? following() & ~proved() : -2;
  }

  private int stepsRefused(int slot) {
    if (slot < 0 || slot > 3 || !told()) {
      return -2;
    }
    if (rows[slot] == null) {
      return -6;
    }
    for (long number : rows[slot]) {
      if (number < 0 || number >= m.steps.size()) {
        return -2;
      }
    }
    return 0;
  }

  private int readBy(int slot, Integer guest, TreeSet<Integer> proved) {
    int many = 0;
    for (long number : rows[slot]) {
      int step = (int) number;
      if (!goes(step, proved)) {
        return many;
      }
      if (guest != null && (!m.guests.get(guest).knows.contains(step) || many == canDo(guest))) {
        return many;
      }
      proved.add(m.steps.get(step).gives);
      many++;
    }
    return many;
  }

  public int reads(int slot) {
    return stepsRefused(slot) != 0 ? stepsRefused(slot) : readBy(slot, null, saltSet());
  }

  public int why(int slot) {
    if (stepsRefused(slot) != 0) {
      return stepsRefused(slot);
    }
    TreeSet<Integer> proved = saltSet();
    int many = readBy(slot, null, proved);
    if (many == rows[slot].length) {
      return 0;
    }
    return proved.containsAll(m.steps.get((int) rows[slot][many]).from) ? 2 : 1;
  }

  public int reached(int slot) {
    if (stepsRefused(slot) != 0) {
      return stepsRefused(slot);
    }
    TreeSet<Integer> proved = saltSet();
    readBy(slot, null, proved);
    return bits(proved);
  }

  public int eats(int slot, int guest) {
    if (!g(guest) || stepsRefused(slot) == -2) {
      return -100;
    }
    if (stepsRefused(slot) == -6) {
      return -600;
    }
    TreeSet<Integer> proved = saltSet();
    readBy(slot, guest, proved);
    return worthOf(minus(proved, saltSet()));
  }

  public int used(int slot, int claim) {
    if (!c(claim)) {
      return -2;
    }
    if (stepsRefused(slot) != 0) {
      return stepsRefused(slot);
    }
    int many = reads(slot);
    TreeSet<Integer> wanted = setOf(1 << claim);
    TreeSet<Integer> used = new TreeSet<>();
    for (int i = many - 1; i >= 0; i--) {
      Step step = m.steps.get((int) rows[slot][i]);
      if (wanted.contains(step.gives)) {
        used.add((int) rows[slot][i]);
        wanted.addAll(step.from);
      }
    }
    return bits(used);
  }

  public int same(int slot, int other, int claim) {
    if (!c(claim) || slot < 0 || slot > 3 || other < 0 || other > 3) {
      return -2;
    }
    if (rows[slot] == null || rows[other] == null) {
      return -6;
    }
    if (stepsRefused(slot) != 0 || stepsRefused(other) != 0) {
      return -2;
    }
    return used(slot, claim) == used(other, claim) ? 1 : 0;
  }

  public int shortest(int claim) {
    if (!c(claim)) {
      return -2;
    }
    TreeSet<Integer> set = shortestSet(claim);
    return set == null ? -1 : set.size();
  }

  public int proof(int claim) {
    if (!c(claim)) {
      return -2;
    }
    TreeSet<Integer> set = shortestSet(claim);
    return set == null ? -1 : bits(set);
  }

  public int bite(int claim, int i) {
    if (!c(claim)) {
      return -2;
    }
    TreeSet<Integer> set = shortestSet(claim);
    if (set == null) {
      return -1;
    }
    List<Integer> order = new ArrayList<>();
    TreeSet<Integer> proved = saltSet();
    boolean went = true;
    while (went) {
      went = false;
      for (int step : set) {
        if (!went && goes(step, proved)) {
          proved.add(m.steps.get(step).gives);
          order.add(step);
          went = true;
        }
      }
    }
    return i >= 0 && i < order.size() ? order.get(i) : -1;
  }

  public int proofs(int claim) {
    if (!c(claim)) {
      return -2;
    }
    int many = 0;
    for (TreeSet<Integer> set : subsets(allSteps())) {
      boolean isOne = provedBy(set, saltSet()).contains(claim);
      for (int step : set) {
        isOne = isOne && !provedBy(minus(set, List.of(step)), saltSet()).contains(claim);
      }
      many += isOne ? 1 : 0;
    }
    return many;
  }

  public int needs(int claim) {
    if (!c(claim)) {
      return -2;
    }
    TreeSet<Integer> inAll = null;
    for (TreeSet<Integer> set : subsets(allSteps())) {
      if (provedBy(set, saltSet()).contains(claim)) {
        if (inAll == null) {
          inAll = new TreeSet<>(set);
        }
        inAll.retainAll(set);
      }
    }
    return inAll == null ? -1 : bits(inAll);
  }

  public int rests(int step) {
    if (!s(step)) {
      return -2;
    }
    return bits(minus(provedBy(allSteps(), saltSet()),
        provedBy(minus(allSteps(), List.of(step)), saltSet())));
  }

  /** The MENU of a GUEST, were some CLAIMS PROVED at first and some STEPS not there. */
  private TreeSet<Integer> menuOf(int guest, TreeSet<Integer> first, TreeSet<Integer> gone) {
    TreeSet<Integer> best = null;
    int most = -1;
    for (TreeSet<Integer> set : subsets(minus(m.guests.get(guest).knows, gone))) {
      int worth = worthOf(minus(provedBy(set, first), first));
      if (set.size() * m.guests.get(guest).speed <= m.hours && worth > most) {
        best = set;
        most = worth;
      }
    }
    return best;
  }

  private int menuWorth(int guest, TreeSet<Integer> first, TreeSet<Integer> gone) {
    return worthOf(minus(provedBy(menuOf(guest, first, gone), first), first));
  }

  public int menu(int guest) {
    return g(guest) ? menuWorth(guest, saltSet(), new TreeSet<>()) : -2;
  }

  public int course(int guest) {
    return g(guest) ? bits(menuOf(guest, saltSet(), new TreeSet<>())) : -2;
  }

  public int dishes(int guest) {
    return g(guest)
        ? bits(minus(provedBy(menuOf(guest, saltSet(), new TreeSet<>()), saltSet()), saltSet()))
        : -2;
  }

  public int takes(int guest, int set) {
    if (!g(guest) || !claimSet(set)) {
      return -2;
    }
    TreeSet<Integer> wanted = minus(setOf(set), saltSet());
    TreeSet<Integer> steps = shortestSet(m.guests.get(guest).knows, wanted);
    return steps == null ? -1 : steps.size() * m.guests.get(guest).speed;
  }

  private boolean canEat(int guest, int set) {
    int hours = takes(guest, set);
    return hours != -1 && hours <= m.hours;
  }

  public int who(int claim) {
    if (!c(claim)) {
      return -2;
    }
    int bits = 0;
    for (int guest = 0; guest < m.guests.size(); guest++) {
      bits |= canEat(guest, 1 << claim) ? 1 << guest : 0;
    }
    return bits;
  }

  public int host(int set) {
    if (!guestSet(set)) {
      return -2;
    }
    for (int claim = 0; claim < m.claims.size(); claim++) {
      if (who(claim) == set) {
        return claim;
      }
    }
    return -1;
  }

  public int lemma(int guest) {
    if (!g(guest)) {
      return -2;
    }
    int best = -1;
    int most = menu(guest);
    for (int claim = 0; claim < m.claims.size(); claim++) {
      int worth = withLemma(guest, claim);
      if (worth > most) {
        most = worth;
        best = claim;
      }
    }
    return best;
  }

  private int withLemma(int guest, int claim) {
    TreeSet<Integer> first = saltSet();
    first.add(claim);
    return menuWorth(guest, first, new TreeSet<>());
  }

  public int brings(int guest) {
    if (!g(guest)) {
      return -2;
    }
    return lemma(guest) == -1 ? 0 : withLemma(guest, lemma(guest)) - menu(guest);
  }

  public int strength(int set) {
    if (!guestSet(set)) {
      return -2;
    }
    int many = 0;
    for (int guest : setOf(set)) {
      many += canDo(guest);
    }
    return many;
  }

  public int together(int set, int claim) {
    if (!guestSet(set) || !c(claim)) {
      return -2;
    }
    TreeSet<Integer> knows = new TreeSet<>();
    for (int guest : setOf(set)) {
      knows.addAll(m.guests.get(guest).knows);
    }
    TreeSet<Integer> steps = shortestSet(knows, setOf(1 << claim));
    return steps != null && steps.size() <= strength(set) ? 1 : 0;
  }

  public int fewest(int claim) {
    int team = team(claim);
    return team < 0 ? team : Integer.bitCount(team);
  }

  public int team(int claim) {
    if (!c(claim)) {
      return -2;
    }
    for (TreeSet<Integer> set : subsets(setOf((1 << m.guests.size()) - 1))) {
      if (together(bits(set), claim) == 1) {
        return bits(set);
      }
    }
    return -1;
  }

  private int worldThatComes(int claim, int first, int atom, int world) {
    if (atom == m.atoms) {
      return world;
    }
    boolean claims = atom % 2 == first;
    int no = worldThatComes(claim, first, atom + 1, world);
    int yes = worldThatComes(claim, first, atom + 1, world + (1 << atom));
    return holdsIn(claim, no) == claims || holdsIn(claim, yes) != claims ? no : yes;
  }

  public int claims(int claim, int first) {
    if (!c(claim) || first < 0 || first > 1) {
      return -2;
    }
    return holdsIn(claim, worldThatComes(claim, first, 0, 0)) ? 1 : 0;
  }

  public int outcome(int claim, int first) {
    return !c(claim) || first < 0 || first > 1 ? -2 : worldThatComes(claim, first, 0, 0);
  }

  private int pairsRefused(int slot) {
    if (slot < 0 || slot > 3 || !told()) {
      return -2;
    }
    if (rows[slot] == null) {
      return -6;
    }
    if (rows[slot].length % 2 == 1) {
      return -2;
    }
    for (int i = 0; i < rows[slot].length; i += 2) {
      long guest = rows[slot][i];
      long step = rows[slot][i + 1];
      if (guest < 0 || guest >= m.guests.size() || step < 0 || step >= m.steps.size()) {
        return -2;
      }
    }
    return 0;
  }

  /** A pair that went: who, what, from when, till when. */
  private record Cooked(int guest, int gives, int begin, int through) {
  }

  private Integer hourOf(int claim, List<Cooked> cooked) {
    Integer hour = m.claims.get(claim).isSalt ? 0 : null;
    for (Cooked one : cooked) {
      if (one.gives() == claim && (hour == null || one.through() < hour)) {
        hour = one.through();
      }
    }
    return hour;
  }

  private List<Cooked> cook(int slot) {
    List<Cooked> cooked = new ArrayList<>();
    for (int i = 0; i < rows[slot].length; i += 2) {
      int guest = (int) rows[slot][i];
      Step step = m.steps.get((int) rows[slot][i + 1]);
      int begin = 0;
      for (Cooked one : cooked) {
        if (one.guest() == guest) {
          begin = Math.max(begin, one.through());
        }
      }
      for (int premise : step.from) {
        if (hourOf(premise, cooked) == null) {
          return cooked;
        }
        begin = Math.max(begin, hourOf(premise, cooked));
      }
      int through = begin + m.guests.get(guest).speed;
      if (!m.guests.get(guest).knows.contains((int) rows[slot][i + 1]) || through > m.hours) {
        return cooked;
      }
      cooked.add(new Cooked(guest, step.gives, begin, through));
    }
    return cooked;
  }

  public int kitchen(int slot, int what) {
    if (what < 0 || what > 2) {
      return -2;
    }
    if (pairsRefused(slot) != 0) {
      return pairsRefused(slot);
    }
    List<Cooked> cooked = cook(slot);
    int last = 0;
    TreeSet<Integer> given = new TreeSet<>();
    for (Cooked one : cooked) {
      last = Math.max(last, one.through());
      given.add(one.gives());
    }
    return what == 0 ? cooked.size() : what == 1 ? last : worthOf(minus(given, saltSet()));
  }

  public int when(int slot, int claim) {
    if (!c(claim)) {
      return -2;
    }
    if (pairsRefused(slot) != 0) {
      return pairsRefused(slot);
    }
    Integer hour = hourOf(claim, cook(slot));
    return hour == null ? -1 : hour;
  }

  public int shares(int slot, int claim) {
    if (!c(claim)) {
      return -2;
    }
    if (pairsRefused(slot) != 0) {
      return pairsRefused(slot);
    }
    int bits = 0;
    for (Cooked one : cook(slot)) {
      bits |= one.gives() == claim ? 1 << one.guest() : 0;
    }
    return bits;
  }

  public int busy(int slot, int guest, int what) {
    if (!g(guest) || what < 0 || what > 1) {
      return -2;
    }
    if (pairsRefused(slot) != 0) {
      return pairsRefused(slot);
    }
    int works = 0;
    int waits = 0;
    int through = 0;
    for (Cooked one : cook(slot)) {
      if (one.guest() == guest) {
        works += one.through() - one.begin();
        waits += one.begin() - through;
        through = one.through();
      }
    }
    return what == 0 ? works : waits;
  }

  /** Whether who is to move wins, and in how many STEPS, as {1 or 0, STEPS}. */
  private int[] play(TreeSet<Integer> proved, Map<Integer, int[]> seen) {
    if (seen.containsKey(bits(proved))) {
      return seen.get(bits(proved));
    }
    boolean wins = false;
    int soonest = Integer.MAX_VALUE;
    int latest = 0;
    for (int step : allSteps()) {
      if (goes(step, proved)) {
        TreeSet<Integer> then = new TreeSet<>(proved);
        then.add(m.steps.get(step).gives);
        int[] reply = play(then, seen);
        if (reply[0] == 0) {
          wins = true;
          soonest = Math.min(soonest, reply[1] + 1);
        } else {
          latest = Math.max(latest, reply[1] + 1);
        }
      }
    }
    int[] result = {wins ? 1 : 0, wins ? soonest : latest};
    seen.put(bits(proved), result);
    return result;
  }

  public int duel() {
    return told() ? play(saltSet(), new HashMap<>())[0] : -2;
  }

  public int move() {
    if (!told()) {
      return -2;
    }
    for (int step : allSteps()) {
      if (goes(step, saltSet())) {
        TreeSet<Integer> then = saltSet();
        then.add(m.steps.get(step).gives);
        if (play(then, new HashMap<>())[0] == 0) {
          return step;
        }
      }
    }
    return -1;
  }

  public int lasts() {
    return told() ? play(saltSet(), new HashMap<>())[1] : -2;
  }

  public int idle() {
    if (!told()) {
      return -2;
    }
    int bits = 0;
    for (int claim : saltSet()) {
      boolean follows = true;
      for (int world = 0; world < worlds(); world++) {
        boolean othersHold = allHold(minus(saltSet(), List.of(claim)), world);
        follows = follows && (!othersHold || holdsIn(claim, world));
      }
      bits |= follows ? 1 << claim : 0;
    }
    return bits;
  }

  public int core() {
    int set = cored();
    return set < 0 ? set : Integer.bitCount(set);
  }

  public int cored() {
    if (!told()) {
      return -2;
    }
    for (TreeSet<Integer> set : subsets(saltSet())) {
      boolean somewhere = false;
      for (int world = 0; world < worlds(); world++) {
        somewhere = somewhere || allHold(set, world);
      }
      if (!somewhere) {
        return bits(set);
      }
    }
    return -1;
  }

  private int heldIn(int claim, TreeSet<Integer> worlds) {
    int many = 0;
    for (int world : worlds) {
      many += holdsIn(claim, world) ? 1 : 0;
    }
    return many;
  }

  public int likely(int claim, int what) {
    if (!c(claim) || what < 0 || what > 1) {
      return -2;
    }
    return fraction(heldIn(claim, saltedWorlds()), saltedWorlds().size(), what);
  }

  public int ask() {
    if (!told()) {
      return -2;
    }
    int best = -1;
    int least = saltedWorlds().size();
    for (int claim = 0; claim < m.claims.size(); claim++) {
      int held = heldIn(claim, saltedWorlds());
      int worst = Math.max(held, saltedWorlds().size() - held);
      if (worst < least) {
        best = claim;
        least = worst;
      }
    }
    return best;
  }

  public int leaves() {
    if (!told() || ask() == -1) {
      return told() ? saltedWorlds().size() : -2;
    }
    int held = heldIn(ask(), saltedWorlds());
    return Math.max(held, saltedWorlds().size() - held);
  }

  public int unlike() {
    if (!told()) {
      return -2;
    }
    TreeSet<Integer> kinds = new TreeSet<>();
    for (int claim = 0; claim < m.claims.size(); claim++) {
      kinds.add(holds(claim));
    }
    return kinds.size();
  }

  public int falls(int claim) {
    if (!c(claim) || !m.claims.get(claim).isSalt) {
      return -2;
    }
    return bits(minus(provedBy(allSteps(), saltSet()),
        provedBy(allSteps(), minus(saltSet(), List.of(claim)))));
  }

  public int spare(int set) {
    int salt = spared(set);
    return salt < 0 ? salt : Integer.bitCount(salt);
  }

  public int spared(int set) {
    if (!claimSet(set)) {
      return -2;
    }
    for (TreeSet<Integer> salt : subsets(saltSet())) {
      if (provedBy(allSteps(), salt).containsAll(setOf(set))) {
        return bits(salt);
      }
    }
    return -1;
  }

  public int salt(int claim, int is) {
    if (!c(claim) || is < 0 || is > 1) {
      return -2;
    }
    boolean was = m.claims.get(claim).isSalt;
    m.claims.get(claim).isSalt = is == 1;
    return was ? 1 : 0;
  }

  private int dishesRefused(int slot) {
    if (slot < 0 || slot > 3 || !told()) {
      return -2;
    }
    if (rows[slot] == null) {
      return -6;
    }
    for (long number : rows[slot]) {
      if (number < 0 || number >= m.claims.size() || m.claims.get((int) number).isSalt) {
        return -2;
      }
    }
    return 0;
  }

  private TreeSet<Integer> rowSet(int slot) {
    TreeSet<Integer> set = new TreeSet<>();
    for (long number : rows[slot]) {
      set.add((int) number);
    }
    return set;
  }

  public int ate(int slot) {
    if (dishesRefused(slot) != 0) {
      return dishesRefused(slot);
    }
    int bits = 0;
    for (int guest = 0; guest < m.guests.size(); guest++) {
      bits |= canEat(guest, bits(rowSet(slot))) ? 1 << guest : 0;
    }
    return bits;
  }

  public int borrowed(int slot, int guest) {
    if (!g(guest)) {
      return -2;
    }
    if (dishesRefused(slot) != 0) {
      return dishesRefused(slot);
    }
    for (long claim : rows[slot]) {
      if (takes(guest, 1 << claim) == -1) {
        return (int) claim;
      }
    }
    return -1;
  }

  public int lent(int slot, int guest) {
    if (!g(guest)) {
      return -2;
    }
    if (dishesRefused(slot) != 0) {
      return dishesRefused(slot);
    }
    if (borrowed(slot, guest) == -1) {
      return 0;
    }
    int bits = 0;
    for (int other = 0; other < m.guests.size(); other++) {
      TreeSet<Integer> both = new TreeSet<>(m.guests.get(guest).knows);
      both.addAll(m.guests.get(other).knows);
      bits |= provedBy(both, saltSet()).containsAll(rowSet(slot)) ? 1 << other : 0;
    }
    return bits;
  }

  public int adds(int claim, int premises) {
    if (!c(claim) || !claimSet(premises) || premises == 0 || setOf(premises).size() > 3) {
      return -2;
    }
    if (m.steps.size() == 12) {
      return -3;
    }
    Step step = new Step();
    step.gives = claim;
    step.from = setOf(premises);
    m.steps.add(step);
    return m.steps.size() - 1;
  }

  public int drops() {
    if (!told()) {
      return -2;
    }
    if (m.steps.isEmpty()) {
      return -5;
    }
    m.steps.remove(m.steps.size() - 1);
    for (Guest guest : m.guests) {
      guest.knows.remove(m.steps.size());
    }
    return m.steps.size();
  }

  public int teach(int guest, int step, int is) {
    if (!g(guest) || !s(step) || is < 0 || is > 1) {
      return -2;
    }
    boolean was = m.guests.get(guest).knows.contains(step);
    if (is == 1) {
      m.guests.get(guest).knows.add(step);
    } else {
      m.guests.get(guest).knows.remove(step);
    }
    return was ? 1 : 0;
  }

  private TreeSet<Integer> holesOf(int seed) {
    TreeSet<Integer> set = new TreeSet<>();
    BigInteger x = BigInteger.valueOf(seed);
    for (int step : allSteps()) {
      x = x.multiply(BigInteger.valueOf(1103515245)).add(BigInteger.valueOf(12345))
          .mod(BigInteger.valueOf(2147483648L));
      if (x.divide(BigInteger.valueOf(65536)).mod(BigInteger.valueOf(100)).intValue() < m.holes) {
        set.add(step);
      }
    }
    return set;
  }

  public int drawn(int seed) {
    return told() && seed >= 0 && seed <= 2000000000 ? bits(holesOf(seed)) : -2;
  }

  public int feast(int seed, int guest) {
    if (!g(guest) || seed < 0 || seed > 2000000000) {
      return -2;
    }
    return menuWorth(guest, saltSet(), holesOf(seed));
  }

  public int mean(int seed, int n, int guest, int what) {
    if (n < 1 || n > 20 || what < 0 || what > 1 || !g(guest) || seed < 0 || seed > 2000000000) {
      return -2;
    }
    int sum = 0;
    for (int i = 0; i < n; i++) {
      sum += menuWorth(guest, saltSet(), holesOf(seed + i));
    }
    return fraction(sum, n, what);
  }

  public int count(int what) {
    int there = 0;
    for (long[] row : rows) {
      there += row == null ? 0 : 1;
    }
    int[] counts = {m.atoms, m.hours, m.holes, m.claims.size(), m.steps.size(), m.guests.size(),
        m.lines, tape.size(), there};
    return what >= 0 && what < counts.length ? counts[what] : -1;
  }

  public int image(int k) {
    if (k < 0 || k > 2) {
      return -2;
    }
    images[k] = m.copy();
    return 0;
  }

  public int back(int k) {
    if (k < 0 || k > 2) {
      return -2;
    }
    if (images[k] == null) {
      return -6;
    }
    m = images[k].copy();
    return 0;
  }

  public int row(int slot, int width, int n) {
    if (slot < 0 || slot > 3 || width < 0 || width > 3 || n > 60) {
      return -2;
    }
    if (n < 0) {
      return -3;
    }
    rows[slot] = new long[n];
    widths[slot] = width;
    return 0;
  }

  public int write(int slot, int i, long v) {
    if (slot < 0 || slot > 3) {
      return -2;
    }
    if (rows[slot] == null) {
      return -6;
    }
    if (i < 0 || i >= rows[slot].length) {
      return -7;
    }
    int cut = 64 - (8 << widths[slot]);
    rows[slot][i] = v << cut >> cut;
    return 0;
  }

  public int paste(int slot, int i, int to, int k, int n) {
    if (slot < 0 || slot > 3 || to < 0 || to > 3) {
      return -2;
    }
    if (rows[slot] == null || rows[to] == null) {
      return -6;
    }
    if (widths[slot] != widths[to]) {
      return -8;
    }
    if (i < 0 || k < 0 || n < 0 || (long) i + n > rows[slot].length
        || (long) k + n > rows[to].length) {
      return -7;
    }
    long[] asTheyWere = Arrays.copyOfRange(rows[slot], i, i + n);
    for (int j = 0; j < n; j++) {
      rows[to][k + j] = asTheyWere[j];
    }
    return 0;
  }
}
