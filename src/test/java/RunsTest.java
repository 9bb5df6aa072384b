import java.nio.file.Files;
import java.nio.file.Path;

/**
 * All promises at once: runs of many programs, each told by all that can be seen of it.
 *
 * <p>A line of a file of runs: a text in hex digits (- for none), then how many STEPS each run()
 * gets. In src/test/data/runs.txt the digest of what is due stands before it, as
 * tools/oracle/oracle.py answered. With a file as argument it prints what is seen instead.
 */
public final class RunsTest {
  private static final String DATA = "src/test/data/runs.txt";

  public static void main(String[] args) throws Exception {
    if (args.length > 0) {
      StringBuilder all = new StringBuilder();
      for (String line : Files.readAllLines(Path.of(args[0]))) {
        all.append("CASE\n").append(seen(line.split(" "), 0));
      }
      System.out.print(all);
      return;
    }
    int number = 0;
    for (String line : Files.readAllLines(Path.of(DATA))) {
      number++;
      String[] words = line.split(" ");
      String digest = digest(seen(words, 1));
      Bench.due("line " + number + " of " + DATA, digest, words[0]);
    }
    Bench.end("RunsTest");
  }

  /** 64 bits of FNV-1a. */
  private static String digest(String s) {
    long h = 0xcbf29ce484222325L;
    for (int i = 0; i < s.length(); i++) {
      h = (h ^ s.charAt(i)) * 0x100000001b3L;
    }
    return String.format("%016x", h);
  }

  private static String seen(String[] words, int first) {
    TableTongue x = new TableTongue();
    StringBuilder text = new StringBuilder();
    String hex = words[first];
    for (int i = 0; !hex.equals("-") && i < hex.length(); i += 2) {
      text.append((char) Integer.parseInt(hex.substring(i, i + 2), 16));
    }
    Bench.feed(x, text.toString());
    int functions = x.compile();
    StringBuilder b = new StringBuilder();
    b.append("compile ").append(functions);
    b.append(" fault ").append(x.fault(0)).append(' ').append(x.fault(1)).append('\n');
    if (functions < 1) {
      return b.toString();
    }
    for (int f = 0; f < functions; f++) {
      b.append("f ").append(x.function(f, 0)).append(' ').append(x.function(f, 1));
      b.append(' ').append(x.function(f, 2)).append(' ').append(x.function(f, 3)).append('\n');
    }
    String runs = runs(x, words, first + 1);
    x.load();
    if (!runs(x, words, first + 1).equals(runs)) {
      b.append("another run after load()\n");
    }
    return b.append(runs).toString();
  }

  private static String runs(TableTongue x, String[] words, int first) {
    StringBuilder b = new StringBuilder();
    for (int i = first; i < words.length; i++) {
      b.append("run ").append(x.run(Integer.parseInt(words[i])));
      b.append("\nsteps ").append(x.steps()).append("\nout ").append(x.outputs()).append(' ');
      for (int k = 0; k < Math.min(3000, x.outputs()); k++) {
        hex(b, x.output(k));
      }
      b.append("\ncount");
      for (int k = 0; k < 6; k++) {
        b.append(' ').append(x.count(k));
      }
      results(b, x);
      for (int o = 1; o <= x.count(0); o++) {
        b.append("o ").append(o).append(' ').append(x.object(o, 0));
        b.append(' ').append(x.object(o, 1));
        places(b, x, o);
        b.append('\n');
      }
    }
    return b.toString();
  }

  private static void hex(StringBuilder b, int value) {
    b.append(Character.forDigit(value >> 4, 16)).append(Character.forDigit(value & 15, 16));
  }

  private static void results(StringBuilder b, TableTongue x) {
    b.append("\nresults ").append(x.results());
    for (int i = 0; i < x.results(); i++) {
      b.append(' ').append(x.result(i, 0)).append(':').append(x.result(i, 1));
      if (x.result(i, 0) == 3) {
        b.append(':');
        for (int k = 0; k < x.result(i, 1); k++) {
          hex(b, x.resultByte(i, k));
        }
      }
    }
    b.append('\n');
  }

  private static void places(StringBuilder b, TableTongue x, int o) {
    for (int k = 0; x.object(o, 0) == 4; k++) {
      try {
        long kind = x.place(o, k, 0);
        b.append(' ').append(kind).append(':').append(x.place(o, k, 2));
        b.append('=').append(x.place(o, k, 1)).append(':').append(x.place(o, k, 3));
      } catch (IndexOutOfBoundsException e) {
        if (e.getClass() != IndexOutOfBoundsException.class) {
          throw e;
        }
        return;
      }
    }
  }
}
