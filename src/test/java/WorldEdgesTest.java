/** The bounds of promises 6 to 18, 43, 44 and 52 to 58, each by the sentence that names it. */
public final class WorldEdgesTest extends Checks {
  /** A TABLE with CLAIMS that hold in no WORLD, the first, the last and in all of sixteen. */
  private static ProvedTable sixteen() {
    return told("table atoms 4 hours 1 holes 0; claim worth 0 no; claim worth 99 yes;"
        + "claim worth 1 and and a b and c d; claim worth 1 not or or a b or c d;"
        + "claim worth 1 not and and a b and c d; step 0 from 2; step 0 from 3; step 0 from 1;");
  }

  private static ProvedTable bare() {
    return told("table atoms 3 hours 1 holes 0;");
  }

  private static void claims() {
    ProvedTable x = board();
    edge(6, "-2: there are none such");
    for (int what = 0; what < 3; what++) {
      int asked = what;
      dueForAll("claim(.., " + what + ")", n -> x.claim(n, asked), NO_CLAIMS, -2);
    }
    int[] others = {-1, 3, 4, MIN, MAX};
    dueForAll("claim(0, ..)", n -> x.claim(0, n), others, -2);
    dueForAll("claim(7, ..)", n -> x.claim(7, n), others, -2);
    due("claim(0, 0) without a TABLE", new ProvedTable().claim(0, 0), -2);
    due("claim(0, 0) without CLAIMS", bare().claim(0, 0), -2);
    edge(6, "Of a CLAIM, what 0: worth, 1: 1 if it is salt, else 0, 2: in how many WORLDS it holds");
    dueInTurn("claim(.., 0)", n -> x.claim(n, 0), 1, 2, 4, 8, 16, 32, 64);
    dueInTurn("claim(.., 1)", n -> x.claim(n, 1), 1, 0, 0, 0, 0, 0, 0);
    dueInTurn("claim(.., 2)", n -> x.claim(n, 2), 2, 2, 1, 3, 2, 4, 0);
    ProvedTable wide = sixteen();
    dueInTurn("claim(.., 2)", n -> wide.claim(n, 2), 0, 16, 1, 1, 15);
    dueInTurn("claim(.., 0)", n -> wide.claim(n, 0), 0, 99, 1, 1, 1);

    edge(7, "HOLDS of a CLAIM");
    dueInTurn("holds", x::holds, 10, 12, 8, 14, 5, 15, 0);
    dueInTurn("holds", wide::holds, 0, 65535, 32768, 1, 32767);
    edge(7, "-2: there is none such");
    dueForAll("holds", x::holds, NO_CLAIMS, -2);
    due("holds(0) without a TABLE", new ProvedTable().holds(0), -2);
  }

  private static void stepsAndGuests() {
    ProvedTable x = board();
    edge(8, "-2: there are none such");
    for (int what = 0; what < 3; what++) {
      int asked = what;
      dueForAll("step(.., " + what + ")", n -> x.step(n, asked), NO_STEPS, -2);
    }
    int[] others = {-1, 3, 4, MIN, MAX};
    dueForAll("step(0, ..)", n -> x.step(0, n), others, -2);
    due("step(0, 0) without a TABLE", new ProvedTable().step(0, 0), -2);
    due("step(0, 0) without STEPS", bare().step(0, 0), -2);
    edge(8, "Of a STEP, what 0: what it gives, 1: its PREMISES, as bits, 2: 1 if it is SOUND, else 0");
    dueInTurn("step(.., 0)", n -> x.step(n, 0), 1, 2, 3, 3, 4, 0);
    dueInTurn("step(.., 1)", n -> x.step(n, 1), 1, 3, 4, 1, 64, 2);
    dueInTurn("step(.., 2)", n -> x.step(n, 2), 0, 1, 1, 1, 1, 0);

    edge(9, "-2: there are none such");
    for (int what = 0; what < 3; what++) {
      int asked = what;
      dueForAll("guest(.., " + what + ")", n -> x.guest(n, asked), NO_GUESTS, -2);
    }
    dueForAll("guest(0, ..)", n -> x.guest(0, n), others, -2);
    due("guest(0, 0) without a TABLE", new ProvedTable().guest(0, 0), -2);
    due("guest(0, 0) without GUESTS", bare().guest(0, 0), -2);
    edge(9, "Of a GUEST, what 0: speed, 1: STEPS it knows, as bits, 2: how many it can do");
    dueInTurn("guest(.., 0)", n -> x.guest(n, 0), 3, 5, 9);
    dueInTurn("guest(.., 1)", n -> x.guest(n, 1), 7, 10, 48);
    dueInTurn("guest(.., 2)", n -> x.guest(n, 2), 3, 2, 1);
    ProvedTable short8 = told(BOARD.replace("hours 10", "hours 8"));
    dueInTurn("guest(.., 2) in 8 hours", n -> short8.guest(n, 2), 2, 1, 0);
    ProvedTable long99 = told(BOARD.replace("hours 10", "hours 99").replace("speed 9", "speed 1"));
    dueInTurn("guest(.., 2) in 99 hours", n -> long99.guest(n, 2), 33, 19, 99);
  }

  private static void saltedWorlds() {
    edge(10, "-2: there is no TABLE");
    due("salted() of a new object", new ProvedTable().salted(), -2);
    edge(10, "II: SALTED: WORLDS in which all salt holds (all without)");
    ProvedTable x = board();
    due("salted()", x.salted(), 10);
    x.salt(0, 0);
    due("salted() without salt", x.salted(), 15);
    due("salted() without CLAIMS, three atoms", bare().salted(), 255);
    due("salted() without salt, four atoms", sixteen().salted(), 65535);
    x.salt(6, 1);
    due("salted() of what never holds", x.salted(), 0);

    edge(11, "II: FOLLOWS: it HOLDS in all SALTED WORLDS");
    dueInTurn("follows, no SALTED WORLDS", x::follows, 1, 1, 1, 1, 1, 1, 1);
    ProvedTable y = board();
    dueInTurn("follows", y::follows, 1, 0, 0, 1, 0, 1, 0);
    y.salt(0, 0);
    dueInTurn("follows, without salt", y::follows, 0, 0, 0, 0, 0, 1, 0);
    edge(11, "-2: there is none such");
    dueForAll("follows", y::follows, NO_CLAIMS, -2);
    due("follows(0) without a TABLE", new ProvedTable().follows(0), -2);

    edge(12, "NONE: it FOLLOWS; -2 likewise");
    dueInTurn("counter, no SALTED WORLDS", x::counter, -1, -1, -1, -1, -1, -1, -1);
    dueForAll("counter", x::counter, NO_CLAIMS, -2);
    due("counter(0) without a TABLE", new ProvedTable().counter(0), -2);
    edge(12, "The least SALTED WORLD in which it does not hold");
    dueInTurn("counter, without salt", y::counter, 0, 0, 0, 0, 1, -1, 0);
    y.salt(0, 1);
    dueInTurn("counter", y::counter, -1, 1, 1, -1, 1, -1, 1);
    ProvedTable wide = sixteen();
    dueInTurn("counter of sixteen", wide::counter, 0, -1, 0, 1, 15);
  }

  private static void likeClaims() {
    ProvedTable x = board();
    edge(13, "-2: there are none such");
    dueForAll("entails(.., 0)", n -> x.entails(n, 0), NO_CLAIMS, -2);
    dueForAll("entails(0, ..)", n -> x.entails(0, n), NO_CLAIMS, -2);
    due("entails(7, 7)", x.entails(7, 7), -2);
    due("entails(0, 0) without a TABLE", new ProvedTable().entails(0, 0), -2);
    edge(13, "Whether one CLAIM holds wherever another one does: 1, 0");
    dueInTurn("entails of itself", n -> x.entails(n, n), 1, 1, 1, 1, 1, 1, 1);
    dueInTurn("entails(yes, ..)", n -> x.entails(5, n), 1, 1, 1, 1, 1, 1, 1);
    dueInTurn("entails(.., no)", n -> x.entails(n, 6), 1, 1, 1, 1, 1, 1, 1);
    dueInTurn("entails(.., a)", n -> x.entails(n, 0), 1, 0, 0, 1, 0, 1, 0);
    dueInTurn("entails(.., or a b)", n -> x.entails(n, 3), 0, 0, 0, 1, 0, 1, 0);

    edge(14, "-2: there is none such");
    dueForAll("alike", x::alike, NO_CLAIMS, -2);
    due("alike(0) without a TABLE", new ProvedTable().alike(0), -2);
    edge(14, "in just the same WORLDS as one (it aside), as bits");
    dueInTurn("alike, none", x::alike, 0, 0, 0, 0, 0, 0, 0);
    StringBuilder twelve = new StringBuilder("table atoms 2 hours 1 holes 0;");
    for (int claim = 0; claim < 12; claim++) {
      twelve.append("claim worth 1 ").append(claim % 2 == 0 ? "or a a;" : "not not a;");
    }
    ProvedTable like = told(twelve.toString());
    due("alike(0), all", like.alike(0), 4094);
    due("alike(11), all", like.alike(11), 2047);
    due("alike(12)", like.alike(12), -2);

    edge(58, "How many CLAIMS are unlike (hold in unlike WORLDS)");
    due("unlike(), all alike", like.unlike(), 1);
    due("unlike(), all unlike", x.unlike(), 7);
    due("unlike() without CLAIMS", bare().unlike(), 0);
    edge(58, "-2 likewise");
    due("unlike() of a new object", new ProvedTable().unlike(), -2);
  }

  private static void falseSteps() {
    ProvedTable x = board();
    edge(15, "NONE: it is SOUND; -2: there is none such");
    dueInTurn("falsity", x::falsity, 1, -1, -1, -1, -1, 2);
    dueForAll("falsity", x::falsity, NO_STEPS, -2);
    due("falsity(0) without a TABLE", new ProvedTable().falsity(0), -2);
    edge(15, "its PREMISES hold, what it gives does not; the least");
    dueInTurn("falsity of sixteen", sixteen()::falsity, 15, 0, 0);

    edge(16, "CLAIMS that can be PROVED by all STEPS, as bits (salt, too)");
    due("proved()", x.proved(), 15);
    due("proved() without CLAIMS", bare().proved(), 0);
    due("proved() without salt", sixteen().proved(), 0);
    edge(17, "CLAIMS that can be PROVED, but do not FOLLOW, as bits");
    due("wrong()", x.wrong(), 6);
    due("wrong() without CLAIMS", bare().wrong(), 0);
    edge(18, "CLAIMS that FOLLOW, but cannot be PROVED, as bits");
    due("covered()", x.covered(), 32);
    due("covered() without CLAIMS", bare().covered(), 0);
    due("covered() of sixteen", sixteen().covered(), 2);
    x.salt(6, 1);
    edge(17, "no SALTED WORLDS: all FOLLOW");
    due("wrong() of what never holds", x.wrong(), 0);
    edge(18, "no SALTED WORLDS: all FOLLOW");
    due("covered() of what never holds", x.covered(), 32);
    ProvedTable none = new ProvedTable();
    edge(16, "-2: there is no TABLE");
    due("proved() of a new object", none.proved(), -2);
    edge(17, "-2 likewise");
    due("wrong() of a new object", none.wrong(), -2);
    edge(18, "-2 likewise");
    due("covered() of a new object", none.covered(), -2);
  }

  private static void doubts() {
    ProvedTable x = board();
    edge(43, "-2: there are none such");
    int[] both = {0, 1};
    for (int first : both) {
      dueForAll("claims(.., " + first + ")", n -> x.claims(n, first), NO_CLAIMS, -2);
    }
    dueForAll("claims(0, ..)", n -> x.claims(0, n), NO_BITS, -2);
    due("claims(0, 0) without a TABLE", new ProvedTable().claims(0, 0), -2);
    edge(43, "first 0: he tells of atom 0, 1: who doubts does");
    dueInTurn("claims(.., 0)", n -> x.claims(n, 0), 1, 0, 0, 1, 1, 1, 0);
    dueInTurn("claims(.., 1)", n -> x.claims(n, 1), 0, 1, 0, 1, 0, 1, 0);
    edge(44, "-2 likewise");
    for (int first : both) {
      dueForAll("outcome(.., " + first + ")", n -> x.outcome(n, first), NO_CLAIMS, -2);
    }
    dueForAll("outcome(0, ..)", n -> x.outcome(0, n), NO_BITS, -2);
    due("outcome(0, 0) without a TABLE", new ProvedTable().outcome(0, 0), -2);
    edge(44, "of what is as good they tell that it does not hold");
    dueInTurn("outcome(.., 0)", n -> x.outcome(n, 0), 1, 0, 0, 1, 0, 0, 0);
    dueInTurn("outcome(.., 1)", n -> x.outcome(n, 1), 0, 2, 0, 2, 1, 0, 0);
    edge(44, "V: of the atoms in order (0 first) by turns");
    ProvedTable four = told("table atoms 4 hours 1 holes 0; claim worth 1 and a c; claim worth 1 and b d;"
        + "claim worth 1 or b d; claim worth 1 not or a c; claim worth 1 and and a b and c d;"
        + "claim worth 1 d; claim worth 1 not d;");
    dueInTurn("claims(.., 0), four", n -> four.claims(n, 0), 1, 0, 0, 1, 0, 0, 0);
    dueInTurn("claims(.., 1), four", n -> four.claims(n, 1), 0, 1, 1, 0, 0, 1, 1);
    dueInTurn("outcome(.., 0), four", n -> four.outcome(n, 0), 5, 0, 0, 0, 0, 0, 8);
    dueInTurn("outcome(.., 1), four", n -> four.outcome(n, 1), 0, 10, 8, 4, 0, 8, 0);
  }

  private static void idleAndCore() {
    ProvedTable x = board();
    edge(52, "-2 likewise");
    due("idle() of a new object", new ProvedTable().idle(), -2);
    edge(52, "Salt that FOLLOWS from all other salt, as bits (each alone)");
    due("idle() of one", x.idle(), 0);
    due("idle() without CLAIMS", bare().idle(), 0);
    x.salt(5, 1);
    due("idle() of what always holds", x.idle(), 32);
    x.salt(0, 0);
    due("idle() of what always holds, alone", x.idle(), 32);
    x.salt(5, 0);
    due("idle() without salt", x.idle(), 0);
    ProvedTable like = told("table atoms 2 hours 1 holes 0; claim worth 1 a; claim worth 1 not not a;"
        + "claim worth 1 no; claim worth 1 b; salt 0; salt 1;");
    due("idle() of like ones, each", like.idle(), 3);
    like.salt(2, 1);
    due("idle(), another never holds", like.idle(), 3);

    ProvedTable first = told("table atoms 2 hours 1 holes 0; claim worth 1 or a b; claim worth 1 b;"
        + "salt 0; salt 1;");
    due("idle() of the first", first.idle(), 1);
    edge(53, "NONE: all do in some; -2 likewise");
    due("core() of a new object", new ProvedTable().core(), -2);
    due("core() without salt", bare().core(), -1);
    x = board();
    due("core() of one", x.core(), -1);
    for (int claim = 1; claim < 4; claim++) {
      x.salt(claim, 1);
    }
    due("lemma(0), asked between", x.lemma(0), -1);
    due("core() of four that hold together", x.core(), -1);
    due("cored() of four that hold together", x.cored(), -1);
    for (int claim = 1; claim < 4; claim++) {
      x.salt(claim, 0);
    }
    edge(53, "the fewest salt that hold in no WORLD together");
    due("core() of what never holds", like.core(), 1);
    x.salt(4, 1);
    due("core() of two", x.core(), 2);
    x.salt(6, 1);
    due("core() of two or one", x.core(), 1);
    edge(54, "NONE, -2 likewise");
    due("cored() of a new object", new ProvedTable().cored(), -2);
    due("cored() without salt", bare().cored(), -1);
    due("cored() of one", board().cored(), -1);
    edge(54, "Which, as bits: the least set of so few");
    due("cored() of two or one", x.cored(), 64);
    x.salt(6, 0);
    due("cored() of two", x.cored(), 17);
    ProvedTable three = told("table atoms 2 hours 1 holes 0; claim worth 1 or a b;"
        + "claim worth 1 not a; claim worth 1 not b; claim worth 1 if a b; claim worth 1 not a;"
        + "salt 0; salt 1; salt 2; salt 3; salt 4;");
    due("core() of three", three.core(), 3);
    due("cored() of three, the least", three.cored(), 7);
    three.salt(1, 0);
    due("cored() of three, the last two with the first", three.cored(), 13);
  }

  private static void fractions() {
    ProvedTable x = board();
    edge(55, "-2: there are none such");
    int[] both = {0, 1};
    for (int what : both) {
      dueForAll("likely(.., " + what + ")", n -> x.likely(n, what), NO_CLAIMS, -2);
    }
    dueForAll("likely(0, ..)", n -> x.likely(0, n), NO_BITS, -2);
    due("likely(0, 0) without a TABLE", new ProvedTable().likely(0, 0), -2);
    edge(55, "VII: FRACTIONS are told in lowest terms (0 / 1)");
    dueInTurn("likely(.., 0)", n -> x.likely(n, 0), 1, 1, 1, 1, 0, 1, 0);
    dueInTurn("likely(.., 1)", n -> x.likely(n, 1), 1, 2, 2, 1, 1, 1, 1);
    x.salt(0, 0);
    dueInTurn("likely(.., 0), without salt", n -> x.likely(n, 0), 1, 1, 1, 3, 1, 1, 0);
    dueInTurn("likely(.., 1), without salt", n -> x.likely(n, 1), 2, 2, 4, 4, 2, 1, 1);
    ProvedTable wide = sixteen();
    dueInTurn("likely(.., 0) of sixteen", n -> wide.likely(n, 0), 0, 1, 1, 1, 15);
    dueInTurn("likely(.., 1) of sixteen", n -> wide.likely(n, 1), 1, 1, 16, 16, 16);
    edge(55, "no such WORLDS: 0 / 1");
    x.salt(6, 1);
    dueInTurn("likely(.., 0), no WORLDS", n -> x.likely(n, 0), 0, 0, 0, 0, 0, 0, 0);
    dueInTurn("likely(.., 1), no WORLDS", n -> x.likely(n, 1), 1, 1, 1, 1, 1, 1, 1);

    edge(56, "NONE: none; -2: there is no TABLE");
    due("ask() of a new object", new ProvedTable().ask(), -2);
    due("ask(), no WORLDS", x.ask(), -1);
    due("ask() without CLAIMS", bare().ask(), -1);
    edge(57, "all without; -2 likewise");
    due("leaves() of a new object", new ProvedTable().leaves(), -2);
    due("leaves(), no WORLDS", x.leaves(), 0);
    due("leaves() without CLAIMS, all", bare().leaves(), 8);
    x.salt(6, 0);
    edge(56, "the first of several");
    due("ask() without salt", x.ask(), 0);
    due("leaves() without salt", x.leaves(), 2);
    StringBuilder twelve = new StringBuilder("table atoms 2 hours 1 holes 0;");
    for (int claim = 0; claim < 12; claim++) {
      twelve.append("claim worth 1 ").append(claim < 11 ? "yes;" : "a;");
    }
    ProvedTable many = told(twelve.toString());
    due("ask() of twelve, the last", many.ask(), 11);
    due("leaves() of twelve", many.leaves(), 2);
    Texts.tell(many, "table atoms 2 hours 1 holes 0;claim worth 1 yes;");
    due("ask() of a TABLE in place of another", many.ask(), -1);
    edge(56, "that leaves fewest SALTED WORLDS at worst, if fewer than all");
    x.salt(0, 1);
    due("ask()", x.ask(), 1);
    due("leaves()", x.leaves(), 1);
    x.salt(1, 1);
    due("ask() of one WORLD", x.ask(), -1);
    due("leaves() of one WORLD", x.leaves(), 1);
    due("ask() of sixteen, the first of unlike ones", wide.ask(), 2);
    due("leaves() of sixteen", wide.leaves(), 15);
    ProvedTable last = told("table atoms 3 hours 1 holes 0; claim worth 1 and a b; claim worth 1 yes;"
        + "claim worth 1 not or a b; claim worth 1 not c; claim worth 1 a;");
    due("ask(), a later one", last.ask(), 3);
    due("leaves(), a later one", last.leaves(), 4);
    ProvedTable same = told("table atoms 2 hours 1 holes 0; claim worth 1 yes; claim worth 1 no;");
    due("ask(), all as before", same.ask(), -1);
    due("leaves(), all as before", same.leaves(), 4);
  }

  public static void main(String[] args) {
    claims();
    stepsAndGuests();
    saltedWorlds();
    likeClaims();
    falseSteps();
    doubts();
    idleAndCore();
    fractions();
    finish();
  }
}
