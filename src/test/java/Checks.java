/** Asks for answers, and tells each that is not as due, by its promise and the sentence it is of. */
abstract class Checks {
  static final int MIN = Integer.MIN_VALUE;
  static final int MAX = Integer.MAX_VALUE;
  /** What an object answers behind so many calls is free, so no test asks for it. */
  static final int MOST_CALLS = 512;
  /** A TABLE whose worths are powers of two, so that a sum of worths tells of which CLAIMS it is. */
  static final String BOARD = "table atoms 2 hours 10 holes 50;"
      + "claim worth 1 a;"
      + "claim worth 2 b;"
      + "claim worth 4 and a b;"
      + "claim worth 8 or a b;"
      + "claim worth 16 not a;"
      + "claim worth 32 yes;"
      + "claim worth 64 no;"
      + "salt 0;"
      + "step 1 from 0;"
      + "step 2 from 0 1;"
      + "step 3 from 2;"
      + "step 3 from 0;"
      + "step 4 from 6;"
      + "step 0 from 1;"
      + "guest speed 3 knows 0 1 2;"
      + "guest speed 5 knows 3 1;"
      + "guest speed 9 knows 4 5;";
  static final int BOARD_LINES = 18;
  // Numbers of no CLAIM, STEP, GUEST, SLOT, bit and set of CLAIMS or GUESTS of the BOARD.
  static final int[] NO_CLAIMS = {-1, 7, 8, 12, 31, 32, 33, MIN, MAX};
  static final int[] NO_STEPS = {-1, 6, 7, 12, 31, 32, 33, MIN, MAX};
  static final int[] NO_GUESTS = {-1, 3, 4, 5, 31, 32, 33, MIN, MAX};
  static final int[] NO_SLOTS = {-1, 4, 5, 32, MIN, MAX};
  static final int[] NO_BITS = {-1, 2, 3, 32, MIN, MAX};
  static final int[] NO_CLAIM_SETS = {-1, 128, 129, 255, 4095, 4096, MIN, MAX};
  static final int[] NO_GUEST_SETS = {-1, 8, 9, 15, 31, 32, MIN, MAX};

  static int promise = 0;
  private static String sentence = "";
  private static int wrong = 0;
  private static int asked = 0;
  private static int sentences = 0;

  /** What is asked from now on is due by a sentence of the document. */
  static void edge(int number, String words) {
    promise = number;
    sentence = " (" + words + ")";
    sentences++;
  }

  static void due(String call, long got, long want) {
    asked++;
    if (got != want) {
      wrong++;
      System.out.println("promise " + promise + sentence + ": " + call + " answered " + got
          + ", due is " + want);
    }
  }

  /** A call with one of its arguments left open. */
  interface Asked {
    int of(int number);
  }

  /** Each of a row of answers is due: the first for 0, the next for 1 and so on. */
  static void dueInTurn(String call, Asked asked, int... want) {
    for (int i = 0; i < want.length; i++) {
      due(call + " for " + i, asked.of(i), want[i]);
    }
  }

  static void dueForAll(String call, Asked asked, int[] numbers, int want) {
    for (int number : numbers) {
      due(call + " for " + number, asked.of(number), want);
    }
  }

  static ProvedTable told(String text) {
    ProvedTable x = new ProvedTable();
    Texts.tell(x, text);
    due("fault(0) of " + text, x.fault(0), 0);
    return x;
  }

  static ProvedTable board() {
    ProvedTable x = new ProvedTable();
    due("table() of the BOARD", Texts.tell(x, BOARD), BOARD_LINES);
    return x;
  }

  static void putRow(ProvedTable x, int slot, int... numbers) {
    due("row", x.row(slot, 0, numbers.length), 0);
    for (int i = 0; i < numbers.length; i++) {
      due("write", x.write(slot, i, numbers[i]), 0);
    }
  }

  static void finish() {
    System.out.println(asked + " answers asked"
        + (sentences > 0 ? " of " + sentences + " sentences, " : ", ") + wrong + " are not as due");
    if (wrong != 0) {
      System.exit(1);
    }
  }
}
