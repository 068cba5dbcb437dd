/** Feeds texts to a TAPE, and draws texts for tests by a chain of numbers of its own. */
final class Texts {
  private long state;

  Texts(long seed) {
    state = seed * 2862933555777941757L + 3037000493L;
  }

  /** The bytes of a text as the numbers that feed wants; the last ones are blanks. */
  static int[] numbersOf(String text) {
    int[] numbers = new int[(text.length() + 19) / 20 * 5];
    for (int i = 0; i < numbers.length * 4; i++) {
      int sign = i < text.length() ? text.charAt(i) : ' ';
      numbers[i / 4] = numbers[i / 4] << 8 | sign & 255;
    }
    return numbers;
  }

  static int tell(ProvedTable x, String text) {
    feed(x, text);
    return x.table();
  }

  /** How many calls it takes to tell a text. */
  static int callsToTell(String text) {
    return numbersOf(text).length / 5 + 2;
  }

  static void feed(ProvedTable x, String text) {
    int[] f = numbersOf(text);
    for (int i = 0; i < f.length; i += 5) {
      x.feed(f[i], f[i + 1], f[i + 2], f[i + 3], f[i + 4]);
    }
    x.end(text.length());
  }

  int below(int bound) {
    state = state * 6364136223846793005L + 1442695040888963407L;
    return (int) ((state >>> 33) % bound);
  }

  String form(int atoms, int depth) {
    int kind = depth == 0 ? 4 + below(4) : below(8);
    switch (kind) {
      case 0:
        return "and " + form(atoms, depth - 1) + " " + form(atoms, depth - 1);
      case 1:
        return "or " + form(atoms, depth - 1) + " " + form(atoms, depth - 1);
      case 2:
        return "if " + form(atoms, depth - 1) + " " + form(atoms, depth - 1);
      case 3:
        return "not " + form(atoms, depth - 1);
      case 4:
        return below(4) == 0 ? "yes" : below(3) == 0 ? "no" : atom(atoms);
      default:
        return atom(atoms);
    }
  }

  private String atom(int atoms) {
    return String.valueOf((char) ('a' + below(atoms)));
  }

  /** A TABLE without a FAULT, its LINES in an order in which they can stand. */
  String table(int mostClaims, int mostSteps, int mostGuests) {
    int atoms = 2 + below(3);
    StringBuilder text = new StringBuilder();
    text.append("table atoms ").append(atoms).append(" hours ").append(1 + below(below(2) == 0 ? 20 : 99))
        .append(" holes ").append(below(below(2) == 0 ? 101 : 50)).append(" ;");
    int claims = below(8) == 0 ? below(2) : 2 + below(mostClaims - 1);
    int steps = claims == 0 || below(8) == 0 ? 0 : 1 + below(mostSteps);
    int guests = steps == 0 || below(8) == 0 ? 0 : 1 + below(mostGuests);
    for (int claim = 0; claim < claims; claim++) {
      text.append(gap()).append("claim worth ").append(below(below(3) == 0 ? 4 : 100)).append(' ')
          .append(form(atoms, below(4))).append(" ;");
      if (below(claim < 3 ? 2 : 5) == 0) {
        text.append(gap()).append("salt ").append(claim).append(';');
      }
    }
    for (int step = 0; step < steps; step++) {
      boolean isUpward = below(3) > 0;
      int gives = isUpward ? claims - 1 - below(1 + below(claims)) : below(claims);
      text.append(gap()).append("step ").append(gives).append(" from");
      int premises = below(2) == 0 ? 1 : 1 + below(3);
      for (int i = 0; i < premises; i++) {
        text.append(' ').append(below(isUpward ? 1 + below(claims) : claims));
      }
      text.append(" ;");
    }
    for (int guest = 0; guest < guests; guest++) {
      text.append(gap()).append("guest speed ").append(1 + below(below(2) == 0 ? 9 : 3))
          .append(" knows");
      int known = 1 + below(steps * 2);
      for (int i = 0; i < known; i++) {
        text.append(' ').append(below(steps));
      }
      text.append(";");
    }
    return text.toString();
  }

  private String gap() {
    return below(3) == 0 ? "\n" : below(3) == 0 ? "" : " ";
  }

  /** A text with some TOKENS or signs taken away, put twice, or put in. */
  String spoilt(String text) {
    String[] bits = {"table", "claim", "salt", "step", "guest", "and", "not", "not not not not", "not and a not not a or b if",
        "yes", "a", "d", "e", ";", "0", "1", "5", "12", "99", "100", "4294967296", "from", "knows",
        "x", "@", "A", "\t", "{", String.valueOf((char) 200), "1a", "claim worth 1 a;",
        "step 0 from 0;", "guest speed 1 knows 0;"};
    StringBuilder spoilt = new StringBuilder(text);
    for (int times = 0; times <= below(3); times++) {
      int place = below(spoilt.length() + 1);
      if (below(2) == 0) {
        while (place < spoilt.length() && spoilt.charAt(place) != ' ') {
          place++;
        }
      }
      switch (below(4)) {
        case 0:
          spoilt.insert(place, " " + bits[below(bits.length)] + " ");
          break;
        case 1:
          spoilt.insert(place, bits[below(bits.length)]);
          break;
        case 2:
          spoilt.delete(place, Math.min(spoilt.length(), place + 1 + below(8)));
          break;
        default:
          spoilt.setLength(place);
      }
    }
    return spoilt.toString();
  }
}
