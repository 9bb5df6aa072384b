/** What the tests share: feeding texts, running them, and telling what is not as due. */
final class Bench {
  private static int wrong = 0;
  private static int asked = 0;

  private Bench() {
  }

  /** What a call does that may throw. */
  interface Call {
    long answer();
  }

  static void due(String what, long got, long want) {
    asked++;
    if (got != want) {
      wrong++;
      System.out.println(what + ": answered " + got + ", due is " + want);
    }
  }

  static void due(String what, String got, String want) {
    asked++;
    if (!got.equals(want)) {
      wrong++;
      System.out.println(what + ":\n  answered " + got + "\n  due is   " + want);
    }
  }

  /** The name of what a call throws, or its answer. */
  static String told(Call call) {
    try {
      return Long.toString(call.answer());
    } catch (IndexOutOfBoundsException e) {
      return e.getClass() == IndexOutOfBoundsException.class ? "index" : e.toString();
    } catch (IllegalArgumentException e) {
      return e.getClass() == IllegalArgumentException.class ? "argument" : e.toString();
    } catch (IllegalStateException e) {
      return e.getClass() == IllegalStateException.class ? "state" : e.toString();
    }
  }

  static void due(String what, Call call, String want) {
    due(what, told(call), want);
  }

  /** The text's characters are its bytes. */
  static void feed(TableTongue x, String text) {
    for (int i = 0; i < text.length(); i += 8) {
      int n = Math.min(8, text.length() - i);
      long bytes = 0;
      for (int k = 0; k < n; k++) {
        bytes |= (long) (text.charAt(i + k) & 255) << (8 * k);
      }
      x.feed(n, bytes);
    }
  }

  static TableTongue compiled(String text) {
    TableTongue x = new TableTongue();
    feed(x, text);
    int answer = x.compile();
    if (answer < 1) {
      due("compile of " + text, "fault " + answer + " at " + x.fault(0), "no fault");
    }
    return x;
  }

  static int runToEnd(TableTongue x) {
    int status = 2;
    for (int i = 0; i < 1000 && status == 2; i++) {
      status = x.run(3000);
    }
    return status;
  }

  /** Runs a text to its end. */
  static TableTongue ran(String text) {
    TableTongue x = compiled(text);
    runToEnd(x);
    return x;
  }

  static String output(TableTongue x) {
    StringBuilder b = new StringBuilder();
    for (int i = 0; i < Math.min(x.outputs(), 3000); i++) {
      b.append((char) x.output(i));
    }
    return b.toString();
  }

  /** All results: nil, true, 12, "text", table 4, function -1, part 0. */
  static String results(TableTongue x) {
    StringBuilder b = new StringBuilder();
    for (int i = 0; i < x.results(); i++) {
      if (i > 0) {
        b.append(", ");
      }
      long value = x.result(i, 1);
      switch ((int) x.result(i, 0)) {
        case 0 -> b.append(value == 0 ? "nil" : "nil?");
        case 1 -> b.append(value == 1 ? "true" : value == 0 ? "false" : "truth?");
        case 2 -> b.append(value);
        case 3 -> {
          b.append('"');
          for (int k = 0; k < value; k++) {
            b.append((char) x.resultByte(i, k));
          }
          b.append('"');
        }
        case 4 -> b.append("table ").append(value);
        case 5 -> b.append("function ").append(value);
        default -> b.append("part ").append(value);
      }
    }
    return b.toString();
  }

  /** What a text gives when it is run: its results, or the error that nothing caught. */
  static String given(String text) {
    TableTongue x = compiled(text);
    return given(x);
  }

  static String given(TableTongue x) {
    switch (runToEnd(x)) {
      case 0:
        return results(x);
      case 1:
        return "error " + results(x);
      case 3:
        return "no room";
      default:
        return "goes on";
    }
  }

  static void gives(String text, String want) {
    due(text, given(text), want);
  }

  static void prints(String text, String want) {
    TableTongue x = compiled(text);
    String end = given(x);
    due(text, end.isEmpty() ? output(x) : end, want);
  }

  /** A text has a fault at a place. */
  static void faults(String text, int number, int place) {
    TableTongue x = new TableTongue();
    feed(x, text);
    int answer = x.compile();
    due(text, answer + " at " + x.fault(0), -number + " at " + place);
  }

  static void compiles(String text) {
    TableTongue x = new TableTongue();
    feed(x, text);
    int answer = x.compile();
    due(text, answer < 1 ? "fault " + answer + " at " + x.fault(0) : "none", "none");
  }

  static String times(int n, String piece) {
    return piece.repeat(n);
  }

  /** Ends the machine, with 1 if an answer was not as due. */
  static void end(String name) {
    System.out.println(name + ": " + asked + " answers, " + wrong + " not as due");
    System.exit(wrong == 0 && asked > 0 ? 0 : 1);
  }
}
