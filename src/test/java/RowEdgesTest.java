/** The bounds of promises 19 to 24, 45 to 48, 63 to 65 and 72 to 77, each by its sentence. */
public final class RowEdgesTest extends Checks {
  // More than the BOARD's ten hours, so that GUESTS can wait.
  private static final String LONG_BOARD = BOARD.replace("hours 10", "hours 12");

  /** A call with a SLOT left open. */
  private static void dueOfSlots(ProvedTable x, String call, Asked asked, int noSlot, int nothing) {
    due(call + " without a TABLE", asked.of(0), noSlot);
    Texts.tell(x, BOARD);
    due(call + " of nothing", asked.of(0), nothing);
    dueForAll(call, asked, NO_SLOTS, noSlot);
  }

  private static void refusedReadings() {
    ProvedTable x = new ProvedTable();
    edge(19, "-2: there is no such SLOT, no TABLE; -6: it has nothing");
    dueOfSlots(x, "reads", x::reads, -2, -6);
    x.table();
    edge(20, "-2, -6 likewise");
    dueOfSlots(x, "why", x::why, -2, -6);
    x.table();
    edge(21, "-2, -6 likewise");
    dueOfSlots(x, "reached", x::reached, -2, -6);
    x.table();
    edge(22, "-100, -600: as -2 (no such GUEST, too), -6");
    dueOfSlots(x, "eats(.., 0)", n -> x.eats(n, 0), -100, -600);
    x.table();
    edge(23, "-2, -6 likewise, no such CLAIM");
    dueOfSlots(x, "used(.., 0)", n -> x.used(n, 0), -2, -6);
    x.table();
    edge(24, "-2, -6 likewise (of both)");
    dueOfSlots(x, "same(.., 0, 0)", n -> x.same(n, 0, 0), -2, -6);
    dueForAll("same(0, .., 0)", n -> x.same(0, n, 0), NO_SLOTS, -2);
    putRow(x, 0, 0);
    due("same(0, 0, 1)", x.same(0, 0, 1), 1);
    for (int slot = 1; slot < 4; slot++) {
      due("same(0, nothing, 1)", x.same(0, slot, 1), -6);
      due("same(nothing, 0, 1)", x.same(slot, 0, 1), -6);
      due("reads(nothing)", x.reads(slot), -6);
    }
    dueForAll("same(0, .., 1)", n -> x.same(0, n, 1), NO_SLOTS, -2);
    dueForAll("same(.., 0, 1)", n -> x.same(n, 0, 1), NO_SLOTS, -2);
    dueForAll("same(0, 0, ..)", n -> x.same(0, 0, n), NO_CLAIMS, -2);
    edge(23, "no such CLAIM");
    dueForAll("used(0, ..)", n -> x.used(0, n), NO_CLAIMS, -2);
    edge(22, "no such GUEST, too");
    dueForAll("eats(0, ..)", n -> x.eats(0, n), NO_GUESTS, -100);
  }

  private static void numbersThatAreNoSteps() {
    edge(19, "a number is no STEP (asked last)");
    ProvedTable x = board();
    putRow(x, 1, 0);
    int[] noSteps = {-1, 6, 7, 12, 32, 127, 128, -128};
    for (int number : noSteps) {
      putRow(x, 0, 4, 4, number);
      due("reads(0), the last is " + number, x.reads(0), -2);
      due("why(0), the last is " + number, x.why(0), -2);
      due("reached(0), the last is " + number, x.reached(0), -2);
      due("eats(0, 0), the last is " + number, x.eats(0, 0), -100);
      due("used(0, 0), the last is " + number, x.used(0, 0), -2);
      due("same(0, 1, 0), the last is " + number, x.same(0, 1, 0), -2);
      due("same(1, 0, 0), the last is " + number, x.same(1, 0, 0), -2);
      due("same(0, 2, 0), nothing is asked first", x.same(0, 2, 0), -6);
      due("same(2, 0, 0), nothing is asked first", x.same(2, 0, 0), -6);
    }
    long[] wide = {4294967296L, -4294967296L, 1L << 40, Long.MIN_VALUE, Long.MAX_VALUE, 4294967301L};
    due("row(0, 3, 1)", x.row(0, 3, 1), 0);
    for (long number : wide) {
      due("write", x.write(0, 0, number), 0);
      due("reads(0) of " + number, x.reads(0), -2);
    }
    due("write", x.write(0, 0, 5L), 0);
    due("reads(0) of 5", x.reads(0), 0);
    x.drops();
    due("reads(0) of 5, which is none any more", x.reads(0), -2);
  }

  private static void readings() {
    ProvedTable x = board();
    edge(19, "how many ahead of the first that does not go");
    edge(20, "Why that does not: 1, 2, 0: all go");
    edge(21, "CLAIMS that are PROVED by those ahead of it (salt, too)");
    int[][] rows = {{}, {0, 1, 2}, {0, 5}, {2, 0}, {4}, {0, 0, 1}, {3, 2}, {3, 0, 1, 2}, {1}, {0, 4, 1}};
    int[] reads = {0, 3, 1, 0, 0, 1, 1, 3, 0, 1};
    int[] why = {0, 0, 2, 1, 1, 2, 1, 2, 1, 1};
    int[] reached = {1, 15, 3, 1, 1, 3, 9, 15, 1, 3};
    for (int i = 0; i < rows.length; i++) {
      putRow(x, 0, rows[i]);
      due("reads of row " + i, x.reads(0), reads[i]);
      due("why of row " + i, x.why(0), why[i]);
      due("reached of row " + i, x.reached(0), reached[i]);
    }
    edge(20, "the least");
    x.adds(0, 64);
    putRow(x, 0, 6);
    due("why(0), both fit", x.why(0), 1);
    edge(19, "SLOTS have rows of at most 60");
    for (int width = 0; width < 4; width++) {
      due("row(3, .., 60)", x.row(3, width, 60), 0);
      due("write(3, 59, 1)", x.write(3, 59, 1L), 0);
      due("reads(3)", x.reads(3), 1);
      due("why(3)", x.why(3), 2);
    }
    edge(21, "salt, too");
    x.salt(5, 1);
    putRow(x, 0);
    due("reached(0) of none", x.reached(0), 33);
  }

  private static void eating() {
    ProvedTable x = board();
    edge(22, "till one does not go, it does not know it, or its hours are over");
    int[][] rows = {{}, {0, 1, 2}, {0, 0, 1}, {0, 3, 1}, {1, 0}, {3, 1}, {3, 3}, {4, 0}, {0, 1, 2, 2}};
    int[][] eats = {{0, 0, 0}, {14, 0, 0}, {2, 0, 0}, {2, 0, 0}, {0, 0, 0}, {0, 8, 0}, {0, 8, 0},
        {0, 0, 0}, {14, 0, 0}};
    for (int i = 0; i < rows.length; i++) {
      putRow(x, 0, rows[i]);
      dueInTurn("eats(0, ..) of row " + i, n -> x.eats(0, n), eats[i]);
    }
    putRow(x, 0, 0, 1, 2);
    int[] byHours = {0, 0, 2, 2, 2, 6, 6, 6, 14, 14};
    for (int hours = 1; hours <= 10; hours++) {
      ProvedTable y = told(BOARD.replace("hours 10", "hours " + hours));
      putRow(y, 0, 0, 1, 2);
      due("eats(0, 0) in " + hours + " hours", y.eats(0, 0), byHours[hours - 1]);
    }
    x.teach(1, 0, 1);
    putRow(x, 0, 0, 3, 1);
    due("eats(0, 1), its hours are over", x.eats(0, 1), 10);
    edge(22, "worths together (III: no salt)");
    putRow(x, 0, 0, 5, 1);
    due("eats(0, 0), one does not go", x.eats(0, 0), 2);
    x.salt(1, 1);
    x.salt(0, 0);
    x.teach(0, 5, 1);
    putRow(x, 0, 5, 1);
    due("eats(0, 0), what was salt", x.eats(0, 0), 5);
  }

  private static void usedSteps() {
    ProvedTable x = board();
    edge(23, "each by what came ahead, as bits (0: salt, it is not reached)");
    putRow(x, 0, 0, 1, 2);
    dueInTurn("used(0, ..)", n -> x.used(0, n), 0, 1, 3, 7, 0, 0, 0);
    putRow(x, 1, 0, 3, 1);
    dueInTurn("used(1, ..)", n -> x.used(1, n), 0, 1, 3, 8, 0, 0, 0);
    putRow(x, 2, 0, 5, 1, 3);
    dueInTurn("used(2, ..), one does not go", n -> x.used(2, n), 0, 1, 0, 0, 0, 0, 0);
    putRow(x, 3);
    dueInTurn("used(3, ..) of none", n -> x.used(3, n), 0, 0, 0, 0, 0, 0, 0);
    ProvedTable y = board();
    y.salt(0, 0);
    y.salt(1, 1);
    y.adds(4, 13);
    putRow(y, 0, 5, 3, 1, 6);
    dueInTurn("used(0, ..), the first CLAIM too", n -> y.used(0, n), 32, 0, 34, 40, 106, 0, 0);
    putRow(y, 1);
    dueInTurn("used(1, ..) of none behind another", n -> y.used(1, n), 0, 0, 0, 0, 0, 0, 0);
    edge(24, "Whether two rows USE the same STEPS for a CLAIM: 1, 0");
    dueInTurn("same(0, 1, ..)", n -> x.same(0, 1, n), 1, 1, 1, 0, 1, 1, 1);
    dueInTurn("same(1, 2, ..)", n -> x.same(1, 2, n), 1, 1, 0, 0, 1, 1, 1);
    dueInTurn("same(3, 0, ..)", n -> x.same(3, 0, n), 1, 0, 0, 0, 1, 1, 1);
    dueInTurn("same(2, 2, ..)", n -> x.same(2, 2, n), 1, 1, 1, 1, 1, 1, 1);
  }

  private static void refusedKitchens() {
    edge(45, "-2: there is no such SLOT, no TABLE; -6: it has nothing");
    ProvedTable x = new ProvedTable();
    for (int what = 0; what < 3; what++) {
      int asked = what;
      dueOfSlots(x, "kitchen(.., " + what + ")", n -> x.kitchen(n, asked), -2, -6);
      x.table();
    }
    edge(46, "-2, -6 likewise, no such CLAIM");
    dueOfSlots(x, "when(.., 0)", n -> x.when(n, 0), -2, -6);
    x.table();
    edge(47, "-2, -6 likewise");
    dueOfSlots(x, "shares(.., 0)", n -> x.shares(n, 0), -2, -6);
    x.table();
    edge(48, "-2, -6 likewise, no such GUEST, what");
    dueOfSlots(x, "busy(.., 0, 0)", n -> x.busy(n, 0, 0), -2, -6);
    x.table();
    dueOfSlots(x, "busy(.., 0, 1)", n -> x.busy(n, 0, 1), -2, -6);
    putRow(x, 0, 0, 0);
    dueForAll("busy(0, .., 0)", n -> x.busy(0, n, 0), NO_GUESTS, -2);
    dueForAll("busy(0, 0, ..)", n -> x.busy(0, 0, n), NO_BITS, -2);
    edge(46, "no such CLAIM");
    dueForAll("when(0, ..)", n -> x.when(0, n), NO_CLAIMS, -2);
    edge(47, "no such CLAIM");
    dueForAll("shares(0, ..)", n -> x.shares(0, n), NO_CLAIMS, -2);
    edge(45, "no such what");
    int[] others = {-1, 3, 4, MIN, MAX};
    dueForAll("kitchen(0, ..)", n -> x.kitchen(0, n), others, -2);
    edge(45, "a number is none such (asked last), not two each");
    int[][] rows = {{0}, {0, 0, 0}, {3, 0}, {-1, 0}, {0, 6}, {0, -1}, {5, 2}, {0, 3, 3, 0}, {0, 3, 0, 6},
        {0, 0, 0, 1, 0}, {0, 0, 0, 1, 127, 0}};
    for (int i = 0; i < rows.length; i++) {
      putRow(x, 1, rows[i]);
      dueInTurn("kitchen(1, ..) of row " + i, n -> x.kitchen(1, n), -2, -2, -2);
      due("when(1, 0) of row " + i, x.when(1, 0), -2);
      due("shares(1, 0) of row " + i, x.shares(1, 0), -2);
      due("busy(1, 0, 0) of row " + i, x.busy(1, 0, 0), -2);
    }
    due("row(1, 0, 59)", x.row(1, 0, 59), 0);
    due("kitchen(1, 0) of 59", x.kitchen(1, 0), -2);
    due("row(1, 0, 60)", x.row(1, 0, 60), 0);
    due("kitchen(1, 0) of 60", x.kitchen(1, 0), 3);
  }

  private static void dueKitchen(ProvedTable x, String of, int pairs, int hour, int worths) {
    dueInTurn("kitchen(0, ..) of " + of, n -> x.kitchen(0, n), pairs, hour, worths);
  }

  private static void kitchens() {
    ProvedTable x = board();
    edge(45, "0 without");
    putRow(x, 0);
    dueKitchen(x, "none", 0, 0, 0);
    edge(45, "IV: the first pair that does not know its STEP ends it");
    putRow(x, 0, 0, 3);
    dueKitchen(x, "one unknown", 0, 0, 0);
    putRow(x, 0, 0, 0, 0, 3, 1, 3);
    dueKitchen(x, "one unknown between", 1, 3, 2);
    edge(45, "IV: or has a PREMISE that is not PROVED ahead in the row");
    putRow(x, 0, 0, 1, 0, 0);
    dueKitchen(x, "one not PROVED", 0, 0, 0);
    putRow(x, 0, 0, 0, 2, 4, 1, 3);
    dueKitchen(x, "one not PROVED between", 1, 3, 2);
    edge(45, "IV: or is not through in time, ends it (it does not go)");
    putRow(x, 0, 0, 0, 1, 3, 2, 5, 0, 1);
    dueKitchen(x, "one not through", 2, 5, 10);
    due("when(0, 2)", x.when(0, 2), -1);
    due("busy(0, 2, 0), it does not go", x.busy(0, 2, 0), 0);
    due("busy(0, 2, 1), it does not go", x.busy(0, 2, 1), 0);
    due("shares(0, 0), it does not go", x.shares(0, 0), 0);
    edge(45, "IV: must be through by the hours");
    putRow(x, 0, 1, 3, 0, 0, 1, 1);
    dueKitchen(x, "just through", 3, 10, 14);
    due("busy(0, 1, 0)", x.busy(0, 1, 0), 10);
    due("busy(0, 1, 1)", x.busy(0, 1, 1), 0);
    ProvedTable y = told(BOARD.replace("hours 10", "hours 9"));
    putRow(y, 0, 1, 3, 0, 0, 1, 1);
    dueKitchen(y, "an hour too many", 2, 5, 10);

    edge(46, "0: salt. NONE: it is not");
    putRow(x, 0, 0, 0, 1, 1, 0, 1, 0, 2);
    dueKitchen(x, "given again", 4, 9, 14);
    edge(46, "IV: What is given again is PROVED at the earlier hour");
    dueInTurn("when(0, ..)", n -> x.when(0, n), 0, 3, 6, 9, -1, -1, -1);
    edge(47, "IV: all who gave it share it");
    dueInTurn("shares(0, ..)", n -> x.shares(0, n), 0, 1, 3, 1, 0, 0, 0);
    edge(48, "waits ahead of or between its STEPS (1)");
    dueInTurn("busy(0, .., 0)", n -> x.busy(0, n, 0), 9, 5, 0);
    dueInTurn("busy(0, .., 1)", n -> x.busy(0, n, 1), 0, 3, 0);
    ProvedTable z = told(LONG_BOARD);
    putRow(z, 0, 0, 0, 1, 1, 0, 2);
    dueKitchen(z, "one between", 3, 11, 14);
    dueInTurn("busy(0, .., 0), between", n -> z.busy(0, n, 0), 6, 5, 0);
    dueInTurn("busy(0, .., 1), between", n -> z.busy(0, n, 1), 5, 3, 0);
    edge(45, "worths of what is PROVED by it (salt aside), together");
    putRow(z, 0, 0, 0, 0, 0, 2, 5);
    dueKitchen(z, "salt given again", 3, 12, 2);
    due("when(0, 0), salt", z.when(0, 0), 0);
    due("shares(0, 0), salt given again", z.shares(0, 0), 4);
    due("shares(0, 1), by one twice", z.shares(0, 1), 1);
    due("when(0, 1), by one twice", z.when(0, 1), 3);
    due("busy(0, 0, 0), one twice", z.busy(0, 0, 0), 6);
    due("busy(0, 2, 0)", z.busy(0, 2, 0), 9);
    due("busy(0, 2, 1), ahead of its STEPS", z.busy(0, 2, 1), 3);
  }

  private static void otherKitchens() {
    ProvedTable x = told(LONG_BOARD);
    edge(46, "salt: hour 0, whatever is salt now");
    x.salt(0, 0);
    x.salt(1, 1);
    x.salt(6, 1);
    putRow(x, 0, 2, 5);
    dueInTurn("when(0, ..)", n -> x.when(0, n), 9, 0, -1, -1, -1, -1, 0);
    dueKitchen(x, "the first CLAIM given", 1, 9, 1);
    putRow(x, 1, 2, 4);
    dueInTurn("shares(1, ..), asked first", n -> x.shares(1, n), 0, 0, 0, 0, 4, 0, 0);
    dueInTurn("when(1, ..)", n -> x.when(1, n), -1, 0, -1, -1, 9, -1, 0);
    putRow(x, 2, 1, 3);
    due("busy(2, 1, 0), asked first, the first CLAIM not PROVED", x.busy(2, 1, 0), 0);
    due("kitchen(2, 0), the first CLAIM not PROVED", x.kitchen(2, 0), 0);
    due("busy(0, 2, 0), asked first", x.busy(0, 2, 0), 9);
    due("kitchen(2, 2), nothing given", x.kitchen(2, 2), 0);
    due("when(1, 4), asked first", x.when(1, 4), 9);
    due("when(2, 4), asked first", x.when(2, 4), -1);
    due("shares(0, 0), asked first", x.shares(0, 0), 4);
  }

  private static void eaten() {
    edge(63, "-2: there is no such SLOT, no TABLE; -6: it has nothing");
    ProvedTable x = new ProvedTable();
    dueOfSlots(x, "ate", x::ate, -2, -6);
    x.table();
    edge(64, "-2, -6 likewise, no such GUEST");
    dueOfSlots(x, "borrowed(.., 0)", n -> x.borrowed(n, 0), -2, -6);
    x.table();
    edge(65, "-2, -6 likewise");
    dueOfSlots(x, "lent(.., 0)", n -> x.lent(n, 0), -2, -6);
    edge(63, "a number is no such CLAIM (asked last)");
    int[] none = {0, -1, 7, 8, 12, 32, 127};
    for (int number : none) {
      putRow(x, 0, 1, 2, number);
      due("ate(0), the last is " + number, x.ate(0), -2);
      due("borrowed(0, 2), the last is " + number, x.borrowed(0, 2), -2);
      due("lent(0, 2), the last is " + number, x.lent(0, 2), -2);
    }
    x.salt(0, 0);
    putRow(x, 0, 0);
    due("ate(0), no salt any more", x.ate(0), 0);
    x.salt(0, 1);
    due("ate(0), salt again", x.ate(0), -2);
    edge(64, "no such GUEST");
    putRow(x, 0, 1);
    dueForAll("borrowed(0, ..)", n -> x.borrowed(0, n), NO_GUESTS, -2);
    edge(65, "no such GUEST");
    dueForAll("lent(0, ..)", n -> x.lent(0, n), NO_GUESTS, -2);

    edge(63, "GUESTS that can have EATEN all of them, as bits");
    int[][] rows = {{1, 2}, {3}, {3, 3, 3}, {4}, {1, 3}, {3, 1, 4}, {2, 3}, {6, 5}};
    int[] ate = {1, 3, 3, 0, 1, 0, 1, 0};
    int[][] borrowed = {{-1, 1, 1}, {-1, -1, 3}, {-1, -1, 3}, {4, 4, 4}, {-1, 1, 1}, {4, 1, 3},
        {-1, 2, 2}, {6, 6, 6}};
    int[][] lent = {{0, 1, 1}, {0, 0, 3}, {0, 0, 3}, {0, 0, 0}, {0, 1, 1}, {0, 0, 0}, {0, 1, 1},
        {0, 0, 0}};
    for (int i = 0; i < rows.length; i++) {
      putRow(x, 0, rows[i]);
      due("ate of row " + i, x.ate(0), ate[i]);
      dueInTurn("borrowed of row " + i, n -> x.borrowed(0, n), borrowed[i]);
      dueInTurn("lent of row " + i, n -> x.lent(0, n), lent[i]);
    }
    edge(63, "III: within the hours");
    x.teach(1, 0, 1);
    putRow(x, 0, 1, 2);
    due("ate(0), just in the hours", x.ate(0), 3);
    putRow(x, 0, 1, 2, 3);
    due("ate(0), one too many", x.ate(0), 1);
    edge(64, "NONE: none; whatever hours");
    ProvedTable hasty = told(BOARD.replace("hours 10", "hours 1"));
    putRow(hasty, 0, 3);
    due("ate(0) in an hour", hasty.ate(0), 0);
    dueInTurn("borrowed(0, ..) in an hour", n -> hasty.borrowed(0, n), -1, -1, 3);
    ProvedTable unsalted = board();
    unsalted.salt(0, 0);
    unsalted.salt(1, 1);
    putRow(unsalted, 0, 2);
    dueInTurn("borrowed(0, ..) of one", n -> unsalted.borrowed(0, n), 2, 2, 2);
    putRow(unsalted, 0, 0);
    dueInTurn("borrowed(0, ..) of the first CLAIM", n -> unsalted.borrowed(0, n), 0, 0, -1);
    putRow(unsalted, 0);
    dueInTurn("borrowed(0, ..) of no CLAIM", n -> unsalted.borrowed(0, n), -1, -1, -1);
    edge(63, "SLOTS have rows of at most 60");
    ProvedTable full = board();
    due("row(0, 0, 60)", full.row(0, 0, 60), 0);
    for (int i = 0; i < 60; i++) {
      full.write(0, i, 1L);
    }
    due("ate(0) of sixty", full.ate(0), 1);
    due("borrowed(0, 0) of sixty", full.borrowed(0, 0), -1);
    due("lent(0, 1) of sixty", full.lent(0, 1), 1);
    edge(65, "GUESTS (bits) that know a STEP that it must have borrowed, of five");
    ProvedTable five = told(BOARD + "guest speed 1 knows 4;guest speed 1 knows 0 1;");
    putRow(five, 0, 1, 2);
    dueInTurn("lent(0, ..) of five", n -> five.lent(0, n), 0, 17, 17, 17, 0);
    Texts.tell(five, BOARD);
    dueInTurn("lent(0, ..) in place of five", n -> five.lent(0, n), 0, 1, 1);
    edge(65, "0: none, it needs none; whatever hours");
    dueInTurn("lent(0, ..) in an hour", n -> hasty.lent(0, n), 0, 0, 3);
  }

  private static void counts() {
    ProvedTable x = board();
    edge(72, "NONE for others");
    int[] others = {-1, 9, 10, 32, MIN, MAX};
    dueForAll("count", x::count, others, -1);
    dueForAll("count without a TABLE", n -> new ProvedTable().count(n), others, -1);
    edge(72, "0 atoms, 1 hours, 2 holes, 3 CLAIMS, 4 STEPS, 5 GUESTS, 6 LINES, 7 bytes, 8 SLOTS");
    dueInTurn("count", x::count, 2, 10, 50, 7, 6, 3, 18, 0, 0);
    x.drops();
    x.feed(0, 0, 0, 0, 0);
    for (int slot = 3; slot >= 0; slot--) {
      due("row(" + slot + ", 0, 0)", x.row(slot, 0, 0), 0);
      due("count(8)", x.count(8), 4 - slot);
    }
    due("row(0, 0, 1), in place of another", x.row(0, 0, 1), 0);
    due("count(8)", x.count(8), 4);
    due("count(7)", x.count(7), 20);
    due("count(4)", x.count(4), 5);
    x.end(0);
    x.table();
    dueInTurn("count, no TABLE any more", x::count, 0, 0, 0, 0, 0, 0, 0, 0, 4);
  }

  private static void images() {
    ProvedTable x = board();
    int[] none = {-1, 3, 4, 32, MIN, MAX};
    edge(73, "-2: no such k");
    dueForAll("image", x::image, none, -2);
    edge(74, "-2: no such k; -6: it has nothing");
    dueForAll("back", x::back, none, -2);
    dueInTurn("back", x::back, -6, -6, -6);
    due("count(3), as it was", x.count(3), 7);
    edge(73, "IMAGE k (0 .. 2) keeps the TABLE: 0");
    due("image(0)", x.image(0), 0);
    x.salt(1, 1);
    due("image(2)", x.image(2), 0);
    due("back(1), nothing", x.back(1), -6);
    Texts.tell(x, "table atoms 4 hours 1 holes 0;claim worth 9 d;");
    due("image(1)", x.image(1), 0);
    edge(74, "It is as IMAGE k has it: 0");
    due("back(0)", x.back(0), 0);
    dueInTurn("count", x::count, 2, 10, 50, 7, 6, 3, 18, 0, 0);
    dueInTurn("claim(.., 1)", n -> x.claim(n, 1), 1, 0, 0, 0, 0, 0, 0);
    due("proved()", x.proved(), 15);
    due("shortest(2)", x.shortest(2), 2);
    due("back(2)", x.back(2), 0);
    due("claim(1, 1)", x.claim(1, 1), 1);
    due("shortest(2)", x.shortest(2), 1);
    due("back(1)", x.back(1), 0);
    dueInTurn("count", x::count, 4, 1, 0, 1, 0, 0, 2, 0, 0);
    due("holds(0)", x.holds(0), 65280);
    due("proved()", x.proved(), 0);
    due("back(0), again", x.back(0), 0);
    x.teach(0, 0, 0);
    x.adds(6, 1);
    due("back(0), the IMAGE stays as it is", x.back(0), 0);
    due("guest(0, 1)", x.guest(0, 1), 7);
    due("count(4)", x.count(4), 6);
    x.drops();
    due("image(0), in place of another", x.image(0), 0);
    due("back(2)", x.back(2), 0);
    due("back(0)", x.back(0), 0);
    due("count(4)", x.count(4), 5);
    edge(74, "as IMAGE k has it, of no TABLE too");
    ProvedTable y = new ProvedTable();
    due("image(2) of no TABLE", y.image(2), 0);
    Texts.tell(y, BOARD);
    due("back(2)", y.back(2), 0);
    due("salted()", y.salted(), -2);
    dueInTurn("count", y::count, 0, 0, 0, 0, 0, 0, 0, 0, 0);
  }

  private static void rows() {
    ProvedTable x = board();
    edge(75, "-2: there is no such SLOT or WIDTH (0 .. 3), or n is above 60");
    dueForAll("row(.., 0, 1)", n -> x.row(n, 0, 1), NO_SLOTS, -2);
    int[] noWidths = {-1, 4, 8, 32, MIN, MAX};
    dueForAll("row(0, .., 1)", n -> x.row(0, n, 1), noWidths, -2);
    int[] above = {61, 62, 64, 1600, MAX};
    dueForAll("row(0, 0, ..)", n -> x.row(0, 0, n), above, -2);
    edge(75, "-3, and the SLOT stays: n is below 0");
    int[] below = {-1, -2, -60, MIN};
    dueForAll("row(0, 0, ..)", n -> x.row(0, 0, n), below, -3);
    due("count(8), nothing yet", x.count(8), 0);
    putRow(x, 0, 0, 1, 2);
    dueForAll("row(0, 3, ..)", n -> x.row(0, 3, n), below, -3);
    dueForAll("row(0, 3, ..)", n -> x.row(0, 3, n), above, -2);
    dueForAll("row(0, .., 1)", n -> x.row(0, n, 1), noWidths, -2);
    due("reads(0), the SLOT stays", x.reads(0), 3);
    edge(75, "a row of n numbers of a WIDTH, all 0 (in place of another one): 0");
    due("row(0, 0, 60)", x.row(0, 0, 60), 0);
    due("reads(0), all 0", x.reads(0), 1);
    for (int i = 0; i < 60; i++) {
      x.write(0, i, -1L);
    }
    due("row(0, 3, 60)", x.row(0, 3, 60), 0);
    due("reads(0), all 0 again", x.reads(0), 1);
    due("reached(0), all 0 again", x.reached(0), 3);
    due("row(0, 1, 0)", x.row(0, 1, 0), 0);
    due("reads(0) of none", x.reads(0), 0);
    due("count(8), a row of none", x.count(8), 1);

    ProvedTable y = board();
    edge(76, "-2: there is no such SLOT; -6: it has nothing; -7: there is no such number");
    dueForAll("write(.., 0, 1)", n -> y.write(n, 0, 1L), NO_SLOTS, -2);
    dueForAll("write(.., -1, 1)", n -> y.write(n, -1, 1L), NO_SLOTS, -2);
    dueInTurn("write(.., 0, 1)", n -> y.write(n, 0, 1L), -6, -6, -6, -6);
    dueInTurn("write(.., -1, 1)", n -> y.write(n, -1, 1L), -6, -6, -6, -6);
    putRow(y, 0, 0, 1, 2);
    int[] noPlaces = {-1, 3, 4, 59, 60, MIN, MAX};
    dueForAll("write(0, .., 9)", n -> y.write(0, n, 9L), noPlaces, -7);
    due("reads(0), as it was", y.reads(0), 3);
    due("row(1, 0, 0)", y.row(1, 0, 0), 0);
    due("write(1, 0, 1) of none", y.write(1, 0, 1L), -7);
    due("row(1, 0, 60)", y.row(1, 0, 60), 0);
    due("write(1, 59, 1)", y.write(1, 59, 1L), 0);
    due("write(1, 60, 1)", y.write(1, 60, 1L), -7);
  }

  private static void widths() {
    edge(76, "Number i of the SLOT's row is v, cut to its WIDTH: 0");
    for (int width = 0; width < 4; width++) {
      ProvedTable x = board();
      int bits = 8 << width;
      due("row", x.row(0, width, 1), 0);
      for (int bit = 3; bit < 64; bit++) {
        due("write", x.write(0, 0, 1L << bit), 0);
        // Step 0 goes; what is left of a number beyond the STEPS is none.
        due("reads(0) of bit " + bit + ", cut to " + bits, x.reads(0), bit >= bits ? 1 : -2);
      }
      due("write", x.write(0, 0, -1L), 0);
      due("reads(0) of -1", x.reads(0), -2);
      due("write", x.write(0, 0, bits == 64 ? 3L : (5L << bits) + 3L), 0);
      due("reads(0) of 3 and more above", x.reads(0), 1);
      due("reached(0) of 3 and more above", x.reached(0), 9);
      due("write", x.write(0, 0, Long.MIN_VALUE), 0);
      due("reads(0) of the least", x.reads(0), bits == 64 ? -2 : 1);
    }
  }

  private static void pastes() {
    ProvedTable x = board();
    edge(77, "-2: there is no such SLOT; -6: one has nothing");
    putRow(x, 0, 0, 1, 2, 3, 4, 5);
    putRow(x, 1, 4, 4, 4);
    dueForAll("paste(.., 0, 1, 0, 1)", n -> x.paste(n, 0, 1, 0, 1), NO_SLOTS, -2);
    dueForAll("paste(0, 0, .., 0, 1)", n -> x.paste(0, 0, n, 0, 1), NO_SLOTS, -2);
    dueForAll("paste(.., 0, 2, 0, 1)", n -> x.paste(n, 0, 2, 0, 1), NO_SLOTS, -2);
    dueForAll("paste(2, 0, .., 0, 1)", n -> x.paste(2, 0, n, 0, 1), NO_SLOTS, -2);
    due("paste from nothing", x.paste(2, 0, 1, 0, 1), -6);
    due("paste to nothing", x.paste(0, 0, 3, 0, 1), -6);
    due("paste of nothing to itself", x.paste(2, 0, 2, 0, 0), -6);
    edge(77, "-8: they are not of one WIDTH");
    for (int width = 1; width < 4; width++) {
      x.row(2, width, 3);
      due("paste to another WIDTH", x.paste(0, 0, 2, 0, 1), -8);
      due("paste from another WIDTH", x.paste(2, 0, 0, 0, 1), -8);
      due("paste of none to another WIDTH", x.paste(0, 0, 2, 0, 0), -8);
    }
    edge(77, "-7, and nothing happens: some are beyond their rows");
    int[][] beyond = {{0, 0, 4}, {3, 0, 4}, {5, 0, 2}, {6, 0, 1}, {0, 2, 2}, {0, 3, 1}, {0, 0, 60},
        {0, 0, MAX}, {MAX, 0, 1}, {0, MAX, 1}, {MAX, MAX, MAX}, {1, 1, MAX}, {5, 2, MAX}};
    for (int[] one : beyond) {
      due("paste from " + one[0] + " to " + one[1] + " of " + one[2],
          x.paste(0, one[0], 1, one[1], one[2]), -7);
    }
    edge(77, "also where n is 0: a place above how many it has");
    due("paste none from above", x.paste(0, 7, 1, 0, 0), -7);
    due("paste none to above", x.paste(0, 0, 1, 4, 0), -7);
    due("paste none from far above", x.paste(0, MAX, 1, 0, 0), -7);
    due("paste none to far above", x.paste(0, 0, 1, MAX, 0), -7);
    due("paste none from the end", x.paste(0, 6, 1, 0, 0), 0);
    due("paste none to the end", x.paste(0, 0, 1, 3, 0), 0);
    due("paste none between ends", x.paste(0, 6, 1, 3, 0), 0);
    edge(77, "or a place or n is below 0");
    int[] below = {-1, -2, -60, MIN};
    for (int n : below) {
      due("paste from " + n, x.paste(0, n, 1, 0, 1), -7);
      due("paste to " + n, x.paste(0, 0, 1, n, 1), -7);
      due("paste of " + n, x.paste(0, 0, 1, 0, n), -7);
      due("paste none from " + n, x.paste(0, n, 1, 0, 0), -7);
      due("paste none to " + n, x.paste(0, 0, 1, n, 0), -7);
      due("paste of " + n + " from the end", x.paste(0, 6, 1, 3, n), -7);
    }
    due("reads(1), nothing happened", x.reads(1), 0);
    x.salt(6, 1);
    due("reached(1), nothing happened", x.reached(1), 81);
    due("reads(0), nothing happened", x.reads(0), 3);
    x.salt(6, 0);
    edge(77, "So many numbers are put to another one's (or its own), as they were: 0");
    due("paste of all that fit", x.paste(0, 0, 1, 0, 3), 0);
    due("reads(1)", x.reads(1), 3);
    due("paste of the last", x.paste(0, 5, 1, 2, 1), 0);
    due("why(1)", x.why(1), 2);
    due("used(1, 2)", x.used(1, 2), 3);
    due("paste up onto itself", x.paste(0, 0, 0, 1, 5), 0);
    due("reads(0) of 0 0 1 2 3 4", x.reads(0), 1);
    due("paste down onto itself", x.paste(0, 1, 0, 0, 5), 0);
    due("reads(0) of 0 1 2 3 4 4", x.reads(0), 3);
    due("why(0)", x.why(0), 2);
    due("paste to the same place", x.paste(0, 0, 0, 0, 6), 0);
    due("reads(0), as it was", x.reads(0), 3);
    due("row(2, 3, 60)", x.row(2, 3, 60), 0);
    due("row(3, 3, 60)", x.row(3, 3, 60), 0);
    due("write", x.write(2, 59, -5L), 0);
    due("paste of sixty", x.paste(2, 0, 3, 0, 60), 0);
    due("reads(3), the last is no STEP", x.reads(3), -2);
    due("paste of sixty-one", x.paste(2, 0, 3, 0, 61), -7);
  }

  private static void manyCalls() {
    edge(1, "An object is used for at most 512 calls after it has been made");
    ProvedTable x = board();
    for (int call = Texts.callsToTell(BOARD) + 1; call < MOST_CALLS - 2; call++) {
      due("brings(2)", x.brings(2), 16);
    }
    due("duel(), the 510th", x.duel(), 1);
    due("proofs(3), the 511th", x.proofs(3), 2);
    due("mean(0, 20, 0, 0), the 512th", x.mean(0, 20, 0, 0), 14);
  }

  public static void main(String[] args) {
    refusedReadings();
    numbersThatAreNoSteps();
    readings();
    eating();
    usedSteps();
    refusedKitchens();
    kitchens();
    otherKitchens();
    eaten();
    counts();
    images();
    rows();
    widths();
    pastes();
    manyCalls();
    finish();
  }
}
