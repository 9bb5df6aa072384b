import java.util.Arrays;

/**
 * A small language of tables. A text is fed byte by byte, compiled into rows of instructions, and
 * run on stacks of values, so that a run can be cut before any step and go on later.
 */
public final class TableTongue {
  public static final int NONE = -1;

  private static final int TEXT_LIMIT = 6000;
  private static final int STEP_LIMIT = 3000;
  private static final int COUNT_LIMIT = 2147483647;

  // Kinds of values; a CELL stands only in the place of a local that a function has captured.
  private static final int NIL = 0;
  private static final int TRUTH = 1;
  private static final int WHOLE = 2;
  private static final int STRING = 3;
  private static final int TABLE = 4;
  private static final int FUNCTION = 5;
  private static final int PART = 6;
  private static final int CELL = 7;

  // Events, in the order in which their names follow the words in the store of strings.
  private static final int EVENT_INDEX = 0;
  private static final int EVENT_NEWINDEX = 1;
  private static final int EVENT_CALL = 2;
  private static final int EVENT_GC = 20;
  private static final int EVENT_MODE = 21;

  // Instructions. Those from ADD on lie as far from their events as OPERATOR_TO_EVENT tells.
  private static final int OP_STEP = 0;
  private static final int OP_NILS = 1;
  private static final int OP_TRUTH = 2;
  private static final int OP_WHOLE = 3;
  private static final int OP_STRING = 4;
  private static final int OP_LOCAL = 5;
  private static final int OP_SET_LOCAL = 6;
  private static final int OP_CAPTURED = 7;
  private static final int OP_SET_CAPTURED = 8;
  private static final int OP_GLOBAL = 9;
  private static final int OP_SET_GLOBAL = 10;
  private static final int OP_INDEX = 11;
  private static final int OP_STORE = 12;
  private static final int OP_TABLE = 13;
  private static final int OP_FIELD = 14;
  private static final int OP_ITEM = 15;
  private static final int OP_ITEMS = 16;
  private static final int OP_DOTS = 17;
  private static final int OP_FUNCTION = 18;
  private static final int OP_CALL = 19;
  private static final int OP_RETURN = 20;
  private static final int OP_JUMP = 21;
  private static final int OP_JUMP_FALSE = 22;
  private static final int OP_AND = 23;
  private static final int OP_OR = 24;
  private static final int OP_NOT = 25;
  private static final int OP_TRUTHY = 26;
  private static final int OP_CUT = 27;
  private static final int OP_ADJUST = 28;
  private static final int OP_COPY = 29;
  private static final int OP_SWAP = 30;
  private static final int OP_FOR_CHECK = 31;
  private static final int OP_FOR_TEST = 32;
  private static final int OP_FOR_NEXT = 33;
  private static final int OP_FOR_IN = 34;
  private static final int OP_ADD = 40;
  private static final int OP_SUB = 41;
  private static final int OP_MUL = 42;
  private static final int OP_IDIV = 43;
  private static final int OP_MOD = 44;
  private static final int OP_BAND = 45;
  private static final int OP_BOR = 46;
  private static final int OP_BXOR = 47;
  private static final int OP_SHL = 48;
  private static final int OP_SHR = 49;
  private static final int OP_NEG = 50;
  private static final int OP_BNOT = 51;
  private static final int OP_CONCAT = 52;
  private static final int OP_LENGTH = 53;
  private static final int OP_EQUAL = 54;
  private static final int OP_LESS = 55;
  private static final int OP_LESS_EQUAL = 56;
  private static final int OP_MORE = 57;
  private static final int OP_MORE_EQUAL = 58;
  private static final int OPERATOR_TO_EVENT = -37;

  // As many values as there are.
  private static final int ALL = -1;
  private static final int VALUE_LIMIT = 30;

  // How a run stands; GOING is also what run() answers when its steps are done.
  private static final int ENDED = 0;
  private static final int FAILED = 1;
  private static final int GOING = 2;
  private static final int NO_ROOM = 3;

  private static final int STATE_NEW = 0;
  private static final int STATE_STOPPED = 1;
  private static final int STATE_RUNNING = 2;
  private static final int STATE_NORMAL = 3;
  private static final int STATE_DEAD = 4;

  private final byte[] text = new byte[TEXT_LIMIT];
  private final Strings strings = new Strings();
  private final Program program = new Program();
  private final Tables tables = new Tables();
  private final Objects objects = new Objects();
  private final Parser parser;
  private final Gathering gathering;
  private final Machine machine;
  private int size;
  private boolean compiled;
  private int faultPlace = NONE;
  private int faultLine = NONE;

  public TableTongue() {
    parser = new Parser(new Tokens(text, strings), program, strings);
    gathering = new Gathering(strings, tables, objects);
    machine = new Machine(program, strings, tables, objects, gathering);
  }

  public int feed(int n, long bytes) throws IllegalArgumentException {
    if (n < 1 || n > 8 || size + n > TEXT_LIMIT) {
      throw new IllegalArgumentException();
    }
    for (int i = 0; i < n; i++) {
      text[size + i] = (byte) (bytes >> (8 * i));
    }
    size += n;
    forget();
    return size;
  }

  public int wipe() {
    int had = size;
    size = 0;
    forget();
    return had;
  }

  public int compile() {
    forget();
    int number = parser.judge(size);
    if (number != 0) {
      faultPlace = parser.refusedPlace;
      faultLine = parser.refusedLine;
      return -number;
    }
    faultPlace = NONE;
    faultLine = NONE;
    compiled = true;
    machine.reset();
    return program.functions;
  }

  public int fault(int what) throws IndexOutOfBoundsException {
    if (what < 0 || what > 1) {
      throw new IndexOutOfBoundsException();
    }
    return what == 0 ? faultPlace : faultLine;
  }

  public int function(int f, int what) throws IndexOutOfBoundsException {
    if (!compiled || f < 0 || f >= program.functions || what < 0 || what > 3) {
      throw new IndexOutOfBoundsException();
    }
    if (what == 0) {
      return program.locals[f];
    }
    if (what == 1) {
      return program.captures[f];
    }
    if (what == 2) {
      return program.dots[f] ? 1 : 0;
    }
    return program.bodyLine[f];
  }

  public void load() throws IllegalStateException {
    if (!compiled) {
      throw new IllegalStateException();
    }
    machine.reset();
  }

  public int run(int steps) throws IllegalStateException, IllegalArgumentException {
    if (!compiled) {
      throw new IllegalStateException();
    }
    if (steps < 1 || steps > STEP_LIMIT) {
      throw new IllegalArgumentException();
    }
    return machine.go(steps);
  }

  public long steps() {
    return compiled ? machine.stepsDone : 0;
  }

  public int results() {
    return compiled ? machine.resultCount() : 0;
  }

  public long result(int i, int what) throws IndexOutOfBoundsException {
    if (i < 0 || i >= results() || what < 0 || what > 1) {
      throw new IndexOutOfBoundsException();
    }
    Part first = objects.parts[0];
    return what == 0 ? first.kinds[i] : told(first.kinds[i], first.values[i]);
  }

  public int resultByte(int i, int k) throws IndexOutOfBoundsException {
    if (i < 0 || i >= results()) {
      throw new IndexOutOfBoundsException();
    }
    Part first = objects.parts[0];
    if (first.kinds[i] != STRING || k < 0 || k >= strings.lengthOf((int) first.values[i])) {
      throw new IndexOutOfBoundsException();
    }
    return strings.byteOf((int) first.values[i], k);
  }

  public int outputs() {
    return compiled ? (int) Math.min(machine.library.printed, COUNT_LIMIT) : 0;
  }

  public int output(int i) throws IndexOutOfBoundsException {
    if (!compiled || i < 0 || i >= Math.min(machine.library.printed, Library.PRINT_LIMIT)) {
      throw new IndexOutOfBoundsException();
    }
    return machine.library.paper[i] & 255;
  }

  public int count(int what) throws IndexOutOfBoundsException {
    if (what < 0 || what > 5) {
      throw new IndexOutOfBoundsException();
    }
    if (!compiled) {
      return 0;
    }
    switch (what) {
      case 0:
        return objects.made;
      case 1:
        return objects.made - objects.gone;
      case 2:
        return tables.placed;
      case 3:
        return strings.made;
      case 4:
        return gathering.lastActs;
      default:
        return gathering.marks;
    }
  }

  public int object(int o, int what) throws IndexOutOfBoundsException {
    if (!compiled || o < 1 || o > objects.made || what < 0 || what > 1) {
      throw new IndexOutOfBoundsException();
    }
    int kind = objects.kinds[o];
    if (what == 0 || kind == 0) {
      return kind;
    }
    if (kind == TABLE) {
      return tables.length[o];
    }
    return kind == FUNCTION ? objects.details[o] : objects.partOf(o).state;
  }

  public long place(int o, int k, int what) throws IndexOutOfBoundsException {
    if (!compiled || o < 1 || o > objects.made || objects.kinds[o] != TABLE || k < 0) {
      throw new IndexOutOfBoundsException();
    }
    int p = tables.placeAt(o, k);
    if (p == 0 || what < 0 || what > 3) {
      throw new IndexOutOfBoundsException();
    }
    if (tables.valueKinds[p] == NIL) {
      return 0;
    }
    switch (what) {
      case 0:
        return tables.keyKinds[p];
      case 1:
        return tables.valueKinds[p];
      case 2:
        return told(tables.keyKinds[p], tables.keys[p]);
      default:
        return told(tables.valueKinds[p], tables.values[p]);
    }
  }

  /** What was compiled is no more. */
  private void forget() {
    compiled = false;
  }

  /** A value as the face tells it. */
  private long told(int kind, long value) {
    if (kind == STRING) {
      return strings.lengthOf((int) value);
    }
    return kind == FUNCTION && value < 0 ? -1 : value;
  }

  /**
   * All strings, each there once, so that two are the same if their numbers are. The words and the
   * events' names stand in front; a run that makes one of these strings counts it then.
   */
  private static final class Strings {
    static final int WORDS = 0;
    static final int WORD_COUNT = 21;
    static final int EVENTS = 21;
    static final int LENGTH_LIMIT = 1000;

    private static final String FIRST_WORDS = "and break do else elseif end false for function if in ";
    private static final String LAST_WORDS = "local nil not or repeat return then true until while ";
    private static final String FIRST_EVENTS =
        "__index __newindex __call __add __sub __mul __idiv __mod __band __bor __bxor __shl __shr ";
    private static final String LAST_EVENTS =
        "__unm __bnot __concat __len __eq __lt __le __gc __mode ";
    private static final int MADE_LIMIT = 800;
    private static final int MADE_BYTES_LIMIT = 24000;
    private static final int NUMBER_LIMIT = 3000;
    private static final int HEADS = 1024;

    // FIXED and TEXTUAL ones are never counted, LATENT ones are not yet, MADE ones are.
    private static final int FIXED = 1;
    private static final int LATENT = 2;
    private static final int TEXTUAL = 3;
    private static final int MADE = 4;

    private final byte[] pool = new byte[32768];
    private final int[] starts = new int[NUMBER_LIMIT];
    private final int[] lengths = new int[NUMBER_LIMIT];
    private final int[] chain = new int[NUMBER_LIMIT];
    private final int[] heads = new int[HEADS];
    // Which of the heads a string's chain begins at.
    private final int[] headOf = new int[NUMBER_LIMIT];
    private int rowHead;
    private final byte[] states = new byte[NUMBER_LIMIT];
    private int known;
    private int used;
    private int fixed;
    private int textual;
    private int made;
    private int madeBytes;
    // The row of bytes that is being put together.
    private final byte[] row = new byte[2200];
    private int rowLength;

    Strings() {
      keepNames(FIRST_WORDS);
      keepNames(LAST_WORDS);
      keepNames(FIRST_EVENTS);
      keepNames(LAST_EVENTS);
    }

    /** Each of the names, a blank behind it, becomes a string that is not counted yet. */
    private void keepNames(String names) {
      for (int i = 0; i < names.length(); i++) {
        char c = names.charAt(i);
        if (c == ' ') {
          keepLatent();
          rowLength = 0;
        } else {
          put(c);
        }
      }
    }

    int lengthOf(int string) {
      return lengths[string];
    }

    int byteOf(int string, int i) {
      return pool[starts[string] + i] & 255;
    }

    boolean has(int string, int sign) {
      for (int i = 0; i < lengths[string]; i++) {
        if (byteOf(string, i) == sign) {
          return true;
        }
      }
      return false;
    }

    int compare(int left, int right) {
      int n = Math.min(lengths[left], lengths[right]);
      for (int i = 0; i < n; i++) {
        int d = byteOf(left, i) - byteOf(right, i);
        if (d != 0) {
          return d;
        }
      }
      return lengths[left] - lengths[right];
    }

    void begin() {
      rowLength = 0;
    }

    int rowLength() {
      return rowLength;
    }

    int rowByte(int i) {
      return row[i];
    }

    void put(int b) {
      if (rowLength < row.length) {
        row[rowLength] = (byte) b;
        rowLength++;
      }
    }

    void putWords(String words) {
      for (int i = 0; i < words.length(); i++) {
        put(words.charAt(i));
      }
    }

    void putPiece(int string, int from, int end) {
      int n = Math.max(Math.min(end - from, row.length - rowLength), 0);
      System.arraycopy(pool, starts[string] + from, row, rowLength, n);
      rowLength += n;
    }

    void putString(int string) {
      putPiece(string, 0, lengths[string]);
    }

    void putWhole(long whole) {
      if (whole < 0) {
        put('-');
      }
      int start = rowLength;
      long rest = whole;
      for (int i = 0; i < 20 && (i == 0 || rest != 0); i++) {
        put('0' + (int) Math.abs(rest % 10));
        rest /= 10;
      }
      for (int i = start, j = rowLength - 1; i < j; i++, j--) {
        byte b = row[i];
        row[i] = row[j];
        row[j] = b;
      }
    }

    /** The row becomes a string that is counted as soon as a run makes it. */
    int keepLatent() {
      int s = find();
      if (s == NONE) {
        s = add();
        states[s] = LATENT;
      }
      fixed = known;
      textual = known;
      return s;
    }

    /** The row becomes a string that is never counted. */
    int keepFixed() {
      int s = find();
      if (s == NONE) {
        s = add();
      }
      states[s] = FIXED;
      fixed = known;
      textual = known;
      return s;
    }

    /** The row becomes a string of the text. */
    int keepTextual() {
      int s = find();
      if (s == NONE) {
        s = add();
        states[s] = TEXTUAL;
      } else if (states[s] == LATENT) {
        states[s] = TEXTUAL;
      }
      textual = known;
      return s;
    }

    /** The word or name in the row: a word's number, or NONE. */
    int wordOfRow() {
      int s = find();
      return s >= WORDS && s < WORDS + WORD_COUNT ? s - WORDS : NONE;
    }

    /** The row becomes a string that a run makes: its number, or NONE without room. */
    int make() {
      int s = find();
      if (s != NONE && states[s] != LATENT) {
        return s;
      }
      if (made >= MADE_LIMIT || madeBytes + rowLength > MADE_BYTES_LIMIT) {
        return NONE;
      }
      if (s == NONE) {
        s = add();
      }
      states[s] = MADE;
      made++;
      madeBytes += rowLength;
      return s;
    }

    void dropText() {
      cutTo(fixed);
      textual = fixed;
      for (int s = 0; s < fixed; s++) {
        if (states[s] != FIXED) {
          states[s] = LATENT;
        }
      }
    }

    void dropMade() {
      cutTo(textual);
      for (int s = 0; s < fixed; s++) {
        if (states[s] == MADE) {
          states[s] = LATENT;
        }
      }
      made = 0;
      madeBytes = 0;
    }

    private void cutTo(int number) {
      // The latest of a chain is its head, so taking away from the end on keeps the chains whole.
      for (int s = known - 1; s >= number; s--) {
        used = starts[s];
        heads[headOf[s]] = chain[s];
      }
      known = Math.min(known, number);
    }

    /** The string that the row is, or NONE. */
    private int find() {
      int h = rowLength;
      for (int i = 0; i < rowLength; i++) {
        h = h * 31 + row[i];
      }
      rowHead = (h ^ (h >>> 10) ^ (h >>> 20)) & (HEADS - 1);
      for (int s = heads[rowHead] - 1; s >= 0; s = chain[s] - 1) {
        int same = lengths[s] == rowLength ? 0 : NONE;
        while (same >= 0 && same < rowLength && pool[starts[s] + same] == row[same]) {
          same++;
        }
        if (same == rowLength) {
          return s;
        }
      }
      return NONE;
    }

    /** The row that was looked for becomes a string. */
    private int add() {
      if (known >= NUMBER_LIMIT || used + rowLength > pool.length) {
        // Never so: the text's bytes and the counted ones together are fewer.
        return 0;
      }
      int s = known;
      System.arraycopy(row, 0, pool, used, rowLength);
      starts[s] = used;
      lengths[s] = rowLength;
      headOf[s] = rowHead;
      chain[s] = heads[rowHead];
      heads[rowHead] = s + 1;
      used += rowLength;
      known++;
      return s;
    }
  }

  /** The tokens of the text, one after the other. */
  private static final class Tokens {
    static final int END_OF_TEXT = 0;
    static final int BAD = 1;
    static final int NAME = 2;
    static final int NUMBER = 3;
    static final int QUOTED = 4;
    // Behind a fault all is over: no rule of the grammar takes this one.
    static final int STOPPED = 5;

    // The words, as they follow each other in the store of strings.
    static final int FIRST_WORD = 10;
    static final int AND = 10;
    static final int BREAK = 11;
    static final int DO = 12;
    static final int ELSE = 13;
    static final int ELSEIF = 14;
    static final int END = 15;
    static final int FALSE = 16;
    static final int FOR = 17;
    static final int FUNCTION_WORD = 18;
    static final int IF = 19;
    static final int IN = 20;
    static final int LOCAL = 21;
    static final int NIL_WORD = 22;
    static final int NOT = 23;
    static final int OR = 24;
    static final int REPEAT = 25;
    static final int RETURN = 26;
    static final int THEN = 27;
    static final int TRUE = 28;
    static final int UNTIL = 29;
    static final int WHILE = 30;

    // The signs of one byte, as they follow each other in SINGLES; then the longer ones.
    static final int FIRST_SINGLE = 40;
    static final int PLUS = 40;
    static final int MINUS = 41;
    static final int STAR = 42;
    static final int PERCENT = 43;
    static final int AMPERSAND = 44;
    static final int BAR = 45;
    static final int TILDE = 46;
    static final int LESS = 47;
    static final int MORE = 48;
    static final int ASSIGN = 49;
    static final int HASH = 50;
    static final int OPEN_ROUND = 51;
    static final int CLOSE_ROUND = 52;
    static final int OPEN_CURLY = 53;
    static final int CLOSE_CURLY = 54;
    static final int OPEN_SQUARE = 55;
    static final int CLOSE_SQUARE = 56;
    static final int SEMICOLON = 57;
    static final int COLON = 58;
    static final int COMMA = 59;
    static final int DOT = 60;
    static final int IDIV = 61;
    static final int SHIFT_LEFT = 62;
    static final int SHIFT_RIGHT = 63;
    static final int TWO_DOTS = 64;
    static final int THREE_DOTS = 65;
    static final int EQUAL = 66;
    static final int UNEQUAL = 67;
    static final int LESS_EQUAL = 68;
    static final int MORE_EQUAL = 69;

    private static final String SINGLES = "+-*%&|~<>=#(){}[];:,.";
    private static final int NAME_LIMIT = 30;
    private static final int QUOTED_LIMIT = 200;
    private static final long WHOLE_LIMIT = 9223372036854775807L;

    private final byte[] text;
    private final Strings strings;
    private int size;
    private int end;
    private int type;
    private int place;
    private int line;
    private int number;
    private long value;

    Tokens(byte[] text, Strings strings) {
      this.text = text;
      this.strings = strings;
    }

    void open(int bytes) {
      size = bytes;
      end = 0;
      line = 1;
      number = 0;
      type = END_OF_TEXT;
    }

    void stop() {
      type = STOPPED;
    }

    /** To the next token: what it is by its first byte, a sign being BAD so far. */
    int begin() {
      if (type == STOPPED) {
        return STOPPED;
      }
      int next = behindBlanks(end);
      for (int i = end; i < next; i++) {
        if (text[i] == 10) {
          line++;
        }
      }
      place = next;
      end = next;
      if (place >= size) {
        type = END_OF_TEXT;
        return type;
      }
      number++;
      int c = text[place];
      if (isLetter(c)) {
        return NAME;
      }
      if (isDigit(c)) {
        return NUMBER;
      }
      return c == '"' || c == '\'' ? QUOTED : BAD;
    }

    /** Whether the sign = stands behind this token. */
    boolean assignFollows() {
      int i = behindBlanks(end);
      return byteAt(i) == '=' && byteAt(i + 1) != '=';
    }

    private int byteAt(int i) {
      return i < size ? text[i] : NONE;
    }

    private int behindBlanks(int from) {
      int i = from;
      while (i < size) {
        int c = text[i];
        if (c == '-' && byteAt(i + 1) == '-') {
          while (i < size && text[i] != 10) {
            i++;
          }
        } else if (c == 32 || c == 9 || c == 13 || c == 10) {
          i++;
        } else {
          break;
        }
      }
      return i;
    }

    private static boolean isDigit(int c) {
      return c >= '0' && c <= '9';
    }

    private static boolean isLetter(int c) {
      return c >= 'a' && c <= 'z' || c >= 'A' && c <= 'Z' || c == '_';
    }

    private static int hexDigit(int c) {
      if (isDigit(c)) {
        return c - '0';
      }
      if (c >= 'a' && c <= 'f') {
        return c - 'a' + 10;
      }
      return c >= 'A' && c <= 'F' ? c - 'A' + 10 : NONE;
    }

    void scanName() {
      int i = place;
      strings.begin();
      while (i < size && (isLetter(text[i]) || isDigit(text[i]))) {
        strings.put(text[i]);
        i++;
      }
      end = i;
      int word = strings.wordOfRow();
      if (word != NONE) {
        type = FIRST_WORD + word;
      } else if (end - place > NAME_LIMIT) {
        type = BAD;
      } else {
        type = NAME;
        value = strings.keepTextual();
      }
    }

    void scanNumber() {
      boolean hex = text[place] == '0' && byteAt(place + 1) == 'x';
      int first = hex ? place + 2 : place;
      int i = first;
      boolean good = true;
      value = 0;
      while (i < size && (hex ? hexDigit(text[i]) >= 0 : isDigit(text[i]))) {
        int d = hexDigit(text[i]);
        if (hex) {
          value = value << 4 | d;
        } else {
          good &= value <= (WHOLE_LIMIT - d) / 10;
          value = value * 10 + d;
        }
        i++;
      }
      end = i;
      int digits = i - first;
      good &= digits >= 1 && digits <= (hex ? 16 : 19);
      good &= !isLetter(byteAt(i)) && !isDigit(byteAt(i));
      type = good ? NUMBER : BAD;
    }

    void scanQuoted() {
      int quote = text[place];
      int i = place + 1;
      strings.begin();
      while (i < size && text[i] != quote && text[i] != 10) {
        if (text[i] != 92) {
          strings.put(text[i]);
          i++;
          continue;
        }
        int length = escape(i + 1);
        if (length == 0) {
          break;
        }
        i += 1 + length;
      }
      type = BAD;
      end = i;
      if (byteAt(i) == quote && strings.rowLength() <= QUOTED_LIMIT) {
        type = QUOTED;
        end = i + 1;
        value = strings.keepTextual();
      }
    }

    /** Puts the byte that is told from place i on, behind byte 92: by how many bytes; 0: none. */
    private int escape(int i) {
      int c = byteAt(i);
      if (c == 'n' || c == 't') {
        strings.put(c == 'n' ? 10 : 9);
        return 1;
      }
      if (c == 92 || c == '"' || c == '\'') {
        strings.put(c);
        return 1;
      }
      int n = 0;
      int told = 0;
      while (n < 3 && isDigit(byteAt(i + n))) {
        told = told * 10 + byteAt(i + n) - '0';
        n++;
      }
      strings.put(told);
      return told > 255 ? 0 : n;
    }

    void scanSign() {
      int c = text[place];
      int next = byteAt(place + 1);
      int pair = pairOf(c, next);
      if (c == '.' && next == '.' && byteAt(place + 2) == '.') {
        type = THREE_DOTS;
        end = place + 3;
      } else if (pair != BAD) {
        type = pair;
        end = place + 2;
      } else {
        int single = c < 0 ? NONE : SINGLES.indexOf((char) c);
        type = single < 0 ? BAD : FIRST_SINGLE + single;
        end = place + 1;
      }
    }

    private static int pairOf(int c, int next) {
      if (next == '=') {
        switch (c) {
          case '=':
            return EQUAL;
          case '~':
            return UNEQUAL;
          case '<':
            return LESS_EQUAL;
          case '>':
            return MORE_EQUAL;
          default:
            return BAD;
        }
      }
      if (c != next) {
        return BAD;
      }
      switch (c) {
        case '/':
          return IDIV;
        case '<':
          return SHIFT_LEFT;
        case '>':
          return SHIFT_RIGHT;
        case '.':
          return TWO_DOTS;
        default:
          return BAD;
      }
    }
  }

  /** What was compiled: instructions of all functions in one row, and what is told of each. */
  private static final class Program {
    static final int FUNCTION_LIMIT = 50;
    static final int LOCAL_LIMIT = 50;
    static final int CAPTURE_LIMIT = 30;
    static final int TOKEN_LIMIT = 1500;
    private static final int SIZE_LIMIT = 10000;

    private final int[] ops = new int[SIZE_LIMIT];
    private final int[] as = new int[SIZE_LIMIT];
    private final int[] bs = new int[SIZE_LIMIT];
    private final int[] lines = new int[SIZE_LIMIT];
    private int size;
    private final long[] wholes = new long[SIZE_LIMIT];
    private int wholeCount;
    private final int[] entries = new int[FUNCTION_LIMIT];
    private final int[] params = new int[FUNCTION_LIMIT];
    private final int[] locals = new int[FUNCTION_LIMIT];
    private final int[] captures = new int[FUNCTION_LIMIT];
    private final int[] bodyLine = new int[FUNCTION_LIMIT];
    private final boolean[] dots = new boolean[FUNCTION_LIMIT];
    // Where a captured local comes from: a slot of the function around, or ~ of one it captured.
    private final int[] sources = new int[FUNCTION_LIMIT * CAPTURE_LIMIT];
    private int functions;

    void clear() {
      size = 0;
      wholeCount = 0;
      functions = 0;
    }

    int addFunction(int line) {
      int f = functions;
      locals[f] = 0;
      params[f] = 0;
      captures[f] = 0;
      dots[f] = false;
      bodyLine[f] = line;
      functions++;
      return f;
    }

    int emit(int op, int a, int b, int line) {
      if (size >= SIZE_LIMIT) {
        // Never so: a token brings four instructions at most.
        return size - 1;
      }
      ops[size] = op;
      as[size] = a;
      bs[size] = b;
      lines[size] = line;
      size++;
      return size - 1;
    }

    int addWhole(long whole) {
      if (wholeCount >= SIZE_LIMIT) {
        return 0;
      }
      wholes[wholeCount] = whole;
      wholeCount++;
      return wholeCount - 1;
    }

    /** The latest instruction is to give so many values. */
    void wantOfLast(int want) {
      if (size > 0) {
        bs[size - 1] = want;
      }
    }

    /** A chain of jumps, each leading to the one before it, all lead to here now. */
    void land(int chain) {
      int j = chain;
      for (int i = 0; i < SIZE_LIMIT && j >= 0; i++) {
        int before = bs[j];
        bs[j] = size;
        j = before;
      }
    }
  }

  /** Which names are known where the parser stands, and how high each function's stack is there. */
  private static final class Scopes {
    private static final int LEVELS = 24;
    static final int NO_LOOP = -2;
    // A local whose statement is not yet behind has no slot.
    private static final int HIDDEN = -1;

    private final Program program;
    private final int[] names = new int[LEVELS * Program.LOCAL_LIMIT];
    private final int[] slots = new int[LEVELS * Program.LOCAL_LIMIT];
    private int active;
    private final int[] functionAt = new int[LEVELS];
    private final int[] firstAt = new int[LEVELS];
    private final int[] heightAt = new int[LEVELS];
    private final int[] breaksAt = new int[LEVELS];
    private int level;
    private final int[] captured = new int[Program.FUNCTION_LIMIT * Program.CAPTURE_LIMIT];
    // What resolve() found: the instruction that reads it, and its operand.
    private int foundOp;
    private int foundIndex;

    Scopes(Program program) {
      this.program = program;
    }

    void clear() {
      level = -1;
      active = 0;
    }

    void enter(int f) {
      level++;
      functionAt[level] = f;
      firstAt[level] = active;
      heightAt[level] = 0;
      breaksAt[level] = NO_LOOP;
    }

    void leave() {
      active = firstAt[level];
      level--;
    }

    int current() {
      return functionAt[level];
    }

    int height() {
      return heightAt[level];
    }

    void setHeight(int h) {
      heightAt[level] = h;
    }

    void rise(int by) {
      heightAt[level] += by;
    }

    int breaks() {
      return breaksAt[level];
    }

    void setBreaks(int chain) {
      breaksAt[level] = chain;
    }

    /** A name of a local that is not known yet: false if its function has too many. */
    boolean hide(int name) {
      int f = functionAt[level];
      if (program.locals[f] >= Program.LOCAL_LIMIT || active >= names.length) {
        return false;
      }
      program.locals[f]++;
      names[active] = name;
      slots[active] = HIDDEN;
      active++;
      return true;
    }

    /** The hidden ones from the first on are known from here on, one slot behind the other. */
    void reveal(int first, int slot) {
      for (int i = first; i < active; i++) {
        slots[i] = slot + i - first;
      }
    }

    void close(int toActive) {
      active = toActive;
    }

    /** Finds what a name means: false if a function would capture too many. */
    boolean resolve(int name) {
      int l = level;
      int slot = NONE;
      int index = NONE;
      while (l >= 0) {
        slot = slotOf(l, name);
        index = slot >= 0 ? NONE : capturedOf(functionAt[l], name);
        if (slot >= 0 || index >= 0) {
          break;
        }
        l--;
      }
      if (l < 0) {
        foundOp = OP_GLOBAL;
        foundIndex = name;
        return true;
      }
      for (int m = l + 1; m <= level; m++) {
        int f = functionAt[m];
        int n = program.captures[f];
        if (n >= Program.CAPTURE_LIMIT) {
          return false;
        }
        program.sources[f * Program.CAPTURE_LIMIT + n] = slot >= 0 ? slot : ~index;
        captured[f * Program.CAPTURE_LIMIT + n] = name;
        program.captures[f]++;
        slot = NONE;
        index = n;
      }
      foundOp = slot >= 0 ? OP_LOCAL : OP_CAPTURED;
      foundIndex = slot >= 0 ? slot : index;
      return true;
    }

    private int slotOf(int l, int name) {
      int above = l == level ? active : firstAt[l + 1];
      for (int i = above - 1; i >= firstAt[l]; i--) {
        if (names[i] == name && slots[i] != HIDDEN) {
          return slots[i];
        }
      }
      return NONE;
    }

    private int capturedOf(int f, int name) {
      for (int i = 0; i < program.captures[f]; i++) {
        if (captured[f * Program.CAPTURE_LIMIT + i] == name) {
          return i;
        }
      }
      return NONE;
    }
  }

  /**
   * Reads the text from the left to the right and writes the program. The first thing refused is
   * the fault with the least place, as every rule looks at a token before it takes it.
   */
  private static final class Parser {
    private static final int NESTING_LIMIT = 20;
    private static final int ROW_LIMIT = 15;
    private static final int FIELD_LIMIT = 30;
    private static final int PLACE_LIMIT = 20;
    private static final int UNARY_STRENGTH = 11;
    private static final int CONCAT_STRENGTH = 8;
    // What a chain ends with, besides the instructions that read a name.
    private static final int CHAIN_VALUE = -1;
    private static final int CHAIN_CALL = -2;
    private static final int NO_JUMPS = -1;

    private final Tokens tokens;
    private final Program program;
    private final Strings strings;
    private final Scopes scopes;
    private int refused;
    private int refusedPlace;
    private int refusedLine;
    // The end of the latest chain that is not read yet: an instruction that reads, its operand.
    private int tailOp;
    private int tailIndex;
    private int tailLine;
    // The places before an =, of one assignment behind those of the assignments around it.
    private final int[] places = new int[3 * PLACE_LIMIT * (NESTING_LIMIT + 2)];
    private int placeTop;
    private final int selfName;

    Parser(Tokens tokens, Program program, Strings strings) {
      this.tokens = tokens;
      this.program = program;
      this.strings = strings;
      scopes = new Scopes(program);
      strings.begin();
      strings.putWords("self");
      selfName = strings.keepLatent();
    }

    /** Reads a text of so many bytes: 0, or the fault's number. */
    int judge(int bytes) {
      strings.dropMade();
      strings.dropText();
      program.clear();
      scopes.clear();
      refused = 0;
      placeTop = 0;
      program.entries[program.addFunction(0)] = 0;
      program.dots[0] = true;
      scopes.enter(0);
      tokens.open(bytes);
      next();
      emit(OP_STEP, 0, 0, 0);
      block(1);
      if (tokens.type != Tokens.END_OF_TEXT) {
        refuse(2);
      }
      emit(OP_RETURN, scopes.height(), 0, 0);
      return refused;
    }

    /** A fault at this token, the first one being the one that counts. */
    private void refuse(int number) {
      if (refused != 0) {
        return;
      }
      refused = number;
      if (number == 2 && tokens.type == Tokens.BAD) {
        refused = 1;
      } else if (number == 4 && tokens.number > Program.TOKEN_LIMIT) {
        refused = 3;
      }
      refusedPlace = tokens.place;
      refusedLine = tokens.line;
      tokens.stop();
    }

    /** This token is taken. */
    private void next() {
      if (tokens.number > Program.TOKEN_LIMIT && tokens.type != Tokens.END_OF_TEXT) {
        refuse(3);
      }
      switch (tokens.begin()) {
        case Tokens.NAME:
          tokens.scanName();
          break;
        case Tokens.NUMBER:
          tokens.scanNumber();
          break;
        case Tokens.QUOTED:
          tokens.scanQuoted();
          break;
        case Tokens.BAD:
          tokens.scanSign();
          break;
        default:
          break;
      }
    }

    private void expect(int type) {
      if (tokens.type == type) {
        next();
      } else {
        refuse(2);
      }
    }

    private boolean take(int type) {
      boolean there = tokens.type == type;
      if (there) {
        next();
      }
      return there;
    }

    private int emit(int op, int a, int b, int line) {
      return program.emit(op, a, b, line);
    }

    /** An instruction that makes the stack higher by so much. */
    private void push(int op, int a, int line, int by) {
      emit(op, a, 0, line);
      scopes.rise(by);
    }

    private void cut(int height) {
      emit(OP_CUT, height, 0, 0);
      scopes.setHeight(height);
    }

    private boolean startsStatement() {
      switch (tokens.type) {
        case Tokens.SEMICOLON:
        case Tokens.NAME:
        case Tokens.OPEN_ROUND:
        case Tokens.DO:
        case Tokens.WHILE:
        case Tokens.REPEAT:
        case Tokens.IF:
        case Tokens.FOR:
        case Tokens.FUNCTION_WORD:
        case Tokens.LOCAL:
        case Tokens.BREAK:
          return true;
        default:
          return false;
      }
    }

    private boolean startsExpression() {
      switch (tokens.type) {
        case Tokens.NIL_WORD:
        case Tokens.FALSE:
        case Tokens.TRUE:
        case Tokens.NUMBER:
        case Tokens.QUOTED:
        case Tokens.THREE_DOTS:
        case Tokens.FUNCTION_WORD:
        case Tokens.OPEN_CURLY:
        case Tokens.NAME:
        case Tokens.OPEN_ROUND:
          return true;
        default:
          return unary() != NONE;
      }
    }

    /** A block whose statements are nested so deep; its locals stay known. */
    private void block(int depth) {
      for (int i = 0; i <= Program.TOKEN_LIMIT && startsStatement(); i++) {
        statement(depth);
      }
      if (tokens.type == Tokens.RETURN) {
        returnStatement(depth);
      }
    }

    /** A block whose locals end with it. */
    private void closedBlock(int depth) {
      int active = scopes.active;
      int height = scopes.height();
      block(depth);
      scopes.close(active);
      if (scopes.height() != height) {
        cut(height);
      }
    }

    private void statement(int depth) {
      if (depth > NESTING_LIMIT) {
        refuse(3);
        return;
      }
      if (take(Tokens.SEMICOLON)) {
        return;
      }
      emit(OP_STEP, 0, 0, tokens.line);
      switch (tokens.type) {
        case Tokens.DO:
          next();
          closedBlock(depth + 1);
          expect(Tokens.END);
          break;
        case Tokens.WHILE:
          whileStatement(depth);
          break;
        case Tokens.REPEAT:
          repeatStatement(depth);
          break;
        case Tokens.IF:
          ifStatement(depth);
          break;
        case Tokens.FOR:
          forStatement(depth);
          break;
        case Tokens.FUNCTION_WORD:
          functionStatement(depth);
          break;
        case Tokens.LOCAL:
          localStatement(depth);
          break;
        case Tokens.BREAK:
          breakStatement();
          break;
        default:
          chainStatement(depth);
          break;
      }
    }

    private void returnStatement(int depth) {
      int line = tokens.line;
      int height = scopes.height();
      emit(OP_STEP, 0, 0, line);
      next();
      if (startsExpression()) {
        row(depth);
      }
      emit(OP_RETURN, height, 0, line);
      scopes.setHeight(height);
      take(Tokens.SEMICOLON);
    }

    private void breakStatement() {
      if (scopes.breaks() == Scopes.NO_LOOP) {
        refuse(4);
        return;
      }
      next();
      scopes.setBreaks(emit(OP_JUMP, 0, scopes.breaks(), 0));
    }

    private void whileStatement(int depth) {
      int around = scopes.breaks();
      int height = scopes.height();
      next();
      int again = program.size;
      emit(OP_STEP, 0, 0, 0);
      expression(0, depth + 1);
      scopes.setBreaks(emit(OP_JUMP_FALSE, 0, NO_JUMPS, 0));
      scopes.rise(-1);
      expect(Tokens.DO);
      closedBlock(depth + 1);
      expect(Tokens.END);
      emit(OP_JUMP, 0, again, 0);
      endLoop(height, around);
    }

    /** Here lead all that leave the loop. */
    private void endLoop(int height, int around) {
      program.land(scopes.breaks());
      scopes.setBreaks(around);
      cut(height);
    }

    private void repeatStatement(int depth) {
      int around = scopes.breaks();
      int height = scopes.height();
      int active = scopes.active;
      next();
      int again = program.size;
      scopes.setBreaks(NO_JUMPS);
      block(depth + 1);
      expect(Tokens.UNTIL);
      emit(OP_STEP, 0, 0, 0);
      expression(0, depth + 1);
      int more = emit(OP_JUMP_FALSE, 0, NO_JUMPS, 0);
      scopes.setBreaks(emit(OP_JUMP, 0, scopes.breaks(), 0));
      program.land(more);
      cut(height);
      emit(OP_JUMP, 0, again, 0);
      scopes.close(active);
      endLoop(height, around);
    }

    private void ifStatement(int depth) {
      int exits = NO_JUMPS;
      next();
      int past = condition(depth);
      for (int i = 0; i <= Program.TOKEN_LIMIT && tokens.type == Tokens.ELSEIF; i++) {
        exits = emit(OP_JUMP, 0, exits, 0);
        program.land(past);
        next();
        past = condition(depth);
      }
      if (tokens.type == Tokens.ELSE) {
        exits = emit(OP_JUMP, 0, exits, 0);
        program.land(past);
        past = NO_JUMPS;
        next();
        closedBlock(depth + 1);
      }
      expect(Tokens.END);
      program.land(past);
      program.land(exits);
    }

    /** E then BLOCK: the jump past it. */
    private int condition(int depth) {
      expression(0, depth + 1);
      expect(Tokens.THEN);
      int past = emit(OP_JUMP_FALSE, 0, NO_JUMPS, 0);
      scopes.rise(-1);
      closedBlock(depth + 1);
      return past;
    }

    /** Here is a name of a new local, not known yet. */
    private void newName() {
      if (tokens.type != Tokens.NAME) {
        refuse(2);
      } else if (!scopes.hide((int) tokens.value)) {
        refuse(3);
      }
    }

    /** Names of new locals from the second one on, the first one being taken. */
    private void moreNames() {
      for (int i = 0; i <= Program.LOCAL_LIMIT && tokens.type == Tokens.COMMA; i++) {
        next();
        newName();
        next();
      }
    }

    private void forStatement(int depth) {
      int line = tokens.line;
      int first = scopes.active;
      next();
      newName();
      next();
      if (tokens.type == Tokens.ASSIGN) {
        countingFor(depth, line, first);
      } else {
        moreNames();
        rowFor(depth, first);
      }
      scopes.close(first);
    }

    private void countingFor(int depth, int line, int first) {
      int around = scopes.breaks();
      int height = scopes.height();
      next();
      expression(0, depth + 1);
      expect(Tokens.COMMA);
      expression(0, depth + 1);
      if (take(Tokens.COMMA)) {
        expression(0, depth + 1);
      } else {
        push(OP_WHOLE, program.addWhole(1), line, 1);
      }
      emit(OP_FOR_CHECK, height, 0, line);
      int again = program.size;
      emit(OP_STEP, 0, 0, 0);
      scopes.setBreaks(emit(OP_FOR_TEST, height, NO_JUMPS, 0));
      expect(Tokens.DO);
      scopes.setHeight(height + 4);
      scopes.reveal(first, height + 3);
      block(depth + 1);
      expect(Tokens.END);
      cut(height + 3);
      emit(OP_FOR_NEXT, height, again, 0);
      endLoop(height, around);
    }

    private void rowFor(int depth, int first) {
      int around = scopes.breaks();
      int height = scopes.height();
      int names = scopes.active - first;
      int line = tokens.line;
      expect(Tokens.IN);
      adjust(row(depth + 1), height, 3, line);
      int again = program.size;
      emit(OP_STEP, 0, 0, 0);
      for (int i = 0; i < 3; i++) {
        emit(OP_LOCAL, height + i, 0, 0);
      }
      emit(OP_CALL, height + 3, names, line);
      scopes.setBreaks(emit(OP_FOR_IN, height, NO_JUMPS, 0));
      expect(Tokens.DO);
      scopes.setHeight(height + 3 + names);
      scopes.reveal(first, height + 3);
      block(depth + 1);
      expect(Tokens.END);
      cut(height + 3);
      emit(OP_JUMP, 0, again, 0);
      endLoop(height, around);
    }

    /** What a row gave from a height on becomes so many values. */
    private void adjust(int row, int height, int wanted, int line) {
      boolean open = (row & 1) == 1;
      if (open || row / 2 != wanted) {
        emit(OP_ADJUST, height, wanted, line);
      }
      scopes.setHeight(height + wanted);
    }

    private void localStatement(int depth) {
      int first = scopes.active;
      int height = scopes.height();
      next();
      if (take(Tokens.FUNCTION_WORD)) {
        newName();
        next();
        push(OP_NILS, 1, 0, 1);
        scopes.reveal(first, height);
        body(depth, false);
        push(OP_SET_LOCAL, height, 0, -1);
        return;
      }
      newName();
      next();
      moreNames();
      int names = scopes.active - first;
      int line = tokens.line;
      if (take(Tokens.ASSIGN)) {
        adjust(row(depth + 1), height, names, line);
      } else {
        push(OP_NILS, names, 0, names);
      }
      scopes.reveal(first, height);
    }

    private void functionStatement(int depth) {
      int height = scopes.height();
      next();
      startName();
      for (int i = 0; i <= Program.TOKEN_LIMIT && tokens.type == Tokens.DOT; i++) {
        fieldName();
      }
      boolean method = tokens.type == Tokens.COLON;
      if (method) {
        fieldName();
      }
      int op = tailOp;
      int index = tailIndex;
      int line = tailLine;
      body(depth, method);
      assign(op, index, line);
      cutIfNeeded(height);
    }

    private void cutIfNeeded(int height) {
      if (scopes.height() != height) {
        cut(height);
      }
    }

    /** A chain's first name; what it means is not read yet. */
    private void startName() {
      if (tokens.type != Tokens.NAME) {
        refuse(2);
        return;
      }
      if (!scopes.resolve((int) tokens.value)) {
        refuse(3);
        return;
      }
      tailOp = scopes.foundOp;
      tailIndex = scopes.foundIndex;
      next();
    }

    /** A sign before a name, and that as a key; the pair is not read yet. */
    private void fieldName() {
      readTail();
      int line = tokens.line;
      next();
      keyName();
      next();
      tailOp = OP_INDEX;
      tailIndex = scopes.height() - 2;
      tailLine = line;
    }

    /** Here is a name as a key. */
    private void keyName() {
      if (tokens.type == Tokens.NAME) {
        push(OP_STRING, (int) tokens.value, tokens.line, 1);
      } else {
        refuse(2);
      }
    }

    /** Reads what the chain so far ends with. */
    private void readTail() {
      if (tailOp == OP_INDEX) {
        push(OP_INDEX, 0, tailLine, -1);
      } else if (tailOp >= 0) {
        push(tailOp, tailIndex, 0, 1);
      }
      tailOp = CHAIN_VALUE;
    }

    /** A chain, as long as can be; its end is not read yet. */
    private void chain(int depth) {
      if (tokens.type == Tokens.OPEN_ROUND) {
        next();
        expression(0, depth + 1);
        expect(Tokens.CLOSE_ROUND);
        tailOp = CHAIN_VALUE;
      } else {
        startName();
      }
      for (int i = 0; i <= Program.TOKEN_LIMIT && link(depth); i++) {
        // link() has taken it
      }
    }

    /** One more link of a chain, if there is one. */
    private boolean link(int depth) {
      int line = tokens.line;
      switch (tokens.type) {
        case Tokens.DOT:
          fieldName();
          return true;
        case Tokens.OPEN_SQUARE:
          readTail();
          next();
          expression(0, depth + 1);
          expect(Tokens.CLOSE_SQUARE);
          tailOp = OP_INDEX;
          tailIndex = scopes.height() - 2;
          tailLine = line;
          return true;
        case Tokens.COLON:
          readTail();
          next();
          push(OP_COPY, 0, line, 1);
          keyName();
          next();
          push(OP_INDEX, 0, line, -1);
          push(OP_SWAP, 0, line, 0);
          given(scopes.height() - 2, depth);
          return true;
        case Tokens.OPEN_ROUND:
        case Tokens.OPEN_CURLY:
        case Tokens.QUOTED:
          readTail();
          given(scopes.height() - 1, depth);
          return true;
        default:
          return false;
      }
    }

    /** What is given to the function at a height, and the call. */
    private void given(int height, int depth) {
      int line = tokens.line;
      if (tokens.type == Tokens.QUOTED) {
        push(OP_STRING, (int) tokens.value, line, 1);
        next();
      } else if (tokens.type == Tokens.OPEN_CURLY) {
        table(depth);
      } else {
        expect(Tokens.OPEN_ROUND);
        if (tokens.type != Tokens.CLOSE_ROUND) {
          row(depth + 1);
        }
        expect(Tokens.CLOSE_ROUND);
      }
      emit(OP_CALL, height, 1, line);
      scopes.setHeight(height + 1);
      tailOp = CHAIN_CALL;
    }

    private void chainStatement(int depth) {
      int height = scopes.height();
      chain(depth);
      if (tailOp == CHAIN_CALL) {
        program.wantOfLast(0);
        scopes.setHeight(height);
      } else {
        assignment(depth, height);
      }
    }

    private void assignment(int depth, int height) {
      int bottom = placeTop;
      notePlace();
      for (int i = 1; i <= PLACE_LIMIT && tokens.type == Tokens.COMMA; i++) {
        next();
        if (tokens.type != Tokens.NAME && tokens.type != Tokens.OPEN_ROUND) {
          refuse(2);
        } else if (i == PLACE_LIMIT) {
          refuse(3);
        } else {
          chain(depth);
          notePlace();
        }
      }
      int wanted = (placeTop - bottom) / 3;
      int line = tokens.line;
      int rowHeight = scopes.height();
      expect(Tokens.ASSIGN);
      adjust(row(depth + 1), rowHeight, wanted, line);
      for (int i = placeTop - 3; i >= bottom; i -= 3) {
        assign(places[i], places[i + 1], places[i + 2]);
      }
      placeTop = bottom;
      cutIfNeeded(height);
    }

    /** The chain's end is a place, if a sign follows that makes it one. */
    private void notePlace() {
      boolean follows = tokens.type == Tokens.ASSIGN || tokens.type == Tokens.COMMA;
      if (!follows || tailOp < 0 || placeTop + 3 > places.length) {
        refuse(2);
        return;
      }
      places[placeTop] = tailOp;
      places[placeTop + 1] = tailIndex;
      places[placeTop + 2] = tailLine;
      placeTop += 3;
    }

    /** The value on the top goes to a place. */
    private void assign(int op, int index, int line) {
      if (op == OP_INDEX) {
        push(OP_STORE, index, line, -1);
      } else {
        push(op + 1, index, line, -1);
      }
    }

    /** E {, E}: twice their number, and one more if the last one gives any number of values. */
    private int row(int depth) {
      boolean open = false;
      int n = 0;
      do {
        if (n > 0) {
          next();
        }
        if (n == ROW_LIMIT && startsExpression()) {
          refuse(3);
        }
        open = expression(0, depth);
        n++;
      } while (n <= ROW_LIMIT && tokens.type == Tokens.COMMA);
      if (open) {
        program.wantOfLast(ALL);
      }
      return open ? n * 2 + 1 : n * 2;
    }

    /** How strongly the operator binds that stands here; 0: none does. */
    private int strength() {
      switch (tokens.type) {
        case Tokens.OR:
          return 1;
        case Tokens.AND:
          return 2;
        case Tokens.LESS:
        case Tokens.MORE:
        case Tokens.LESS_EQUAL:
        case Tokens.MORE_EQUAL:
        case Tokens.EQUAL:
        case Tokens.UNEQUAL:
          return 3;
        case Tokens.BAR:
          return 4;
        case Tokens.TILDE:
          return 5;
        case Tokens.AMPERSAND:
          return 6;
        case Tokens.SHIFT_LEFT:
        case Tokens.SHIFT_RIGHT:
          return 7;
        case Tokens.TWO_DOTS:
          return CONCAT_STRENGTH;
        case Tokens.PLUS:
        case Tokens.MINUS:
          return 9;
        case Tokens.STAR:
        case Tokens.IDIV:
        case Tokens.PERCENT:
          return 10;
        default:
          return 0;
      }
    }

    private int unary() {
      switch (tokens.type) {
        case Tokens.NOT:
          return OP_NOT;
        case Tokens.HASH:
          return OP_LENGTH;
        case Tokens.MINUS:
          return OP_NEG;
        case Tokens.TILDE:
          return OP_BNOT;
        default:
          return NONE;
      }
    }

    private static int binary(int type) {
      switch (type) {
        case Tokens.PLUS:
          return OP_ADD;
        case Tokens.MINUS:
          return OP_SUB;
        case Tokens.STAR:
          return OP_MUL;
        case Tokens.IDIV:
          return OP_IDIV;
        case Tokens.PERCENT:
          return OP_MOD;
        case Tokens.AMPERSAND:
          return OP_BAND;
        case Tokens.BAR:
          return OP_BOR;
        case Tokens.TILDE:
          return OP_BXOR;
        case Tokens.SHIFT_LEFT:
          return OP_SHL;
        case Tokens.SHIFT_RIGHT:
          return OP_SHR;
        case Tokens.TWO_DOTS:
          return OP_CONCAT;
        case Tokens.LESS:
          return OP_LESS;
        case Tokens.LESS_EQUAL:
          return OP_LESS_EQUAL;
        case Tokens.MORE:
          return OP_MORE;
        case Tokens.MORE_EQUAL:
          return OP_MORE_EQUAL;
        default:
          return OP_EQUAL;
      }
    }

    /** An E with operators stronger than the limit: whether it gives any number of values. */
    private boolean expression(int limit, int depth) {
      if (!startsExpression()) {
        refuse(2);
        return false;
      }
      if (depth > NESTING_LIMIT) {
        refuse(3);
        return false;
      }
      boolean open = false;
      int before = unary();
      if (before != NONE) {
        int line = tokens.line;
        next();
        expression(UNARY_STRENGTH, depth + 1);
        push(before, 0, line, 0);
      } else {
        open = operand(depth);
      }
      for (int i = 0; i <= Program.TOKEN_LIMIT && strength() > limit; i++) {
        open = false;
        operation(depth);
      }
      return open;
    }

    /** An operator and its right side. */
    private void operation(int depth) {
      int type = tokens.type;
      int line = tokens.line;
      int strength = strength();
      next();
      if (type == Tokens.AND || type == Tokens.OR) {
        int past = emit(type == Tokens.AND ? OP_AND : OP_OR, 0, NO_JUMPS, line);
        scopes.rise(-1);
        expression(strength, depth + 1);
        program.land(past);
        return;
      }
      expression(strength == CONCAT_STRENGTH ? strength - 1 : strength, depth + 1);
      push(binary(type), 0, line, -1);
      if (type == Tokens.UNEQUAL) {
        push(OP_NOT, 0, line, 0);
      } else if (strength == 3) {
        push(OP_TRUTHY, 0, line, 0);
      }
    }

    private boolean operand(int depth) {
      int line = tokens.line;
      switch (tokens.type) {
        case Tokens.NIL_WORD:
          push(OP_NILS, 1, line, 1);
          break;
        case Tokens.FALSE:
        case Tokens.TRUE:
          push(OP_TRUTH, tokens.type == Tokens.TRUE ? 1 : 0, line, 1);
          break;
        case Tokens.NUMBER:
          push(OP_WHOLE, program.addWhole(tokens.value), line, 1);
          break;
        case Tokens.QUOTED:
          push(OP_STRING, (int) tokens.value, line, 1);
          break;
        case Tokens.THREE_DOTS:
          if (!program.dots[scopes.current()]) {
            refuse(4);
          }
          next();
          emit(OP_DOTS, 0, 1, line);
          scopes.rise(1);
          return true;
        case Tokens.FUNCTION_WORD:
          next();
          body(depth, false);
          return false;
        case Tokens.OPEN_CURLY:
          table(depth);
          return false;
        default:
          chain(depth);
          boolean open = tailOp == CHAIN_CALL;
          readTail();
          return open;
      }
      next();
      return false;
    }

    private void table(int depth) {
      int height = scopes.height();
      push(OP_TABLE, 0, tokens.line, 1);
      next();
      int items = 0;
      for (int fields = 0; fields <= FIELD_LIMIT && tokens.type != Tokens.CLOSE_CURLY; fields++) {
        if (tokens.type != Tokens.OPEN_SQUARE && !startsExpression()) {
          refuse(2);
        } else if (fields == FIELD_LIMIT || depth + 1 > NESTING_LIMIT) {
          refuse(3);
        }
        boolean keyed = tokens.type == Tokens.OPEN_SQUARE
            || tokens.type == Tokens.NAME && tokens.assignFollows();
        if (keyed) {
          keyedField(depth);
          separator();
        } else {
          items++;
          itemField(depth, items, height);
        }
      }
      expect(Tokens.CLOSE_CURLY);
      scopes.setHeight(height + 1);
    }

    private void separator() {
      if (tokens.type == Tokens.COMMA || tokens.type == Tokens.SEMICOLON) {
        next();
      } else if (tokens.type != Tokens.CLOSE_CURLY) {
        refuse(2);
      }
    }

    private void keyedField(int depth) {
      int line = tokens.line;
      if (take(Tokens.OPEN_SQUARE)) {
        expression(0, depth + 2);
        expect(Tokens.CLOSE_SQUARE);
      } else {
        keyName();
        next();
      }
      expect(Tokens.ASSIGN);
      expression(0, depth + 2);
      push(OP_FIELD, 0, line, -2);
    }

    private void itemField(int depth, int item, int height) {
      boolean open = expression(0, depth + 2);
      separator();
      if (open && tokens.type == Tokens.CLOSE_CURLY) {
        program.wantOfLast(ALL);
        emit(OP_ITEMS, item, height, 0);
        scopes.rise(-1);
      } else {
        push(OP_ITEM, item, 0, -1);
      }
    }

    /** The BODY of a function, and the instruction that makes one of it. */
    private void body(int depth, boolean method) {
      if (tokens.type != Tokens.OPEN_ROUND) {
        refuse(2);
        return;
      }
      if (program.functions >= Program.FUNCTION_LIMIT) {
        refuse(3);
        return;
      }
      int f = program.addFunction(tokens.line);
      int past = emit(OP_FUNCTION, f, NO_JUMPS, tokens.line);
      program.entries[f] = program.size;
      scopes.enter(f);
      int first = scopes.active;
      if (method) {
        scopes.hide(selfName);
      }
      next();
      parameters(f);
      expect(Tokens.CLOSE_ROUND);
      scopes.reveal(first, 0);
      program.params[f] = scopes.active - first;
      scopes.setHeight(program.params[f]);
      emit(OP_STEP, 0, 0, 0);
      block(depth + 1);
      emit(OP_RETURN, scopes.height(), 0, 0);
      expect(Tokens.END);
      scopes.leave();
      program.land(past);
      scopes.rise(1);
    }

    private void parameters(int f) {
      boolean dots = tokens.type == Tokens.THREE_DOTS;
      boolean more = tokens.type == Tokens.NAME;
      for (int i = 0; i <= Program.LOCAL_LIMIT && more; i++) {
        newName();
        next();
        more = tokens.type == Tokens.COMMA;
        if (more) {
          next();
          dots = tokens.type == Tokens.THREE_DOTS;
          more = !dots;
        }
      }
      if (dots) {
        program.dots[f] = true;
        next();
      }
    }
  }

  /** The pairs of all tables, a table being told by its object's number, THE GLOBALS by 0. */
  private static final class Tables {
    static final int PLACE_LIMIT = 3000;
    private static final int HEADS = 4096;

    private final int[] first = new int[Objects.LIMIT + 1];
    private final int[] last = new int[Objects.LIMIT + 1];
    private final int[] length = new int[Objects.LIMIT + 1];
    private final int[] metas = new int[Objects.LIMIT + 1];
    // Places from 1 on; place 0 is none, and its value is nil.
    private final byte[] keyKinds = new byte[PLACE_LIMIT + 1];
    private final byte[] valueKinds = new byte[PLACE_LIMIT + 1];
    private final long[] keys = new long[PLACE_LIMIT + 1];
    private final long[] values = new long[PLACE_LIMIT + 1];
    private final int[] owners = new int[PLACE_LIMIT + 1];
    private final int[] after = new int[PLACE_LIMIT + 1];
    private final int[] chain = new int[PLACE_LIMIT + 1];
    private final int[] heads = new int[HEADS];
    // Which of the heads a place's chain begins at, and which the latest key looked for has.
    private final int[] headOf = new int[PLACE_LIMIT + 1];
    private int keyHead;
    // Places given back are chained by after[]; those above used were never taken.
    private int free;
    private int used;
    private int placed;

    void clear() {
      Arrays.fill(heads, 0);
      free = 0;
      used = 0;
      placed = 0;
      open(0);
    }

    /** A table without places. */
    void open(int table) {
      first[table] = 0;
      last[table] = 0;
      length[table] = 0;
      metas[table] = 0;
    }

    /** The place of a key, or 0. */
    int find(int table, int kind, long key) {
      int h = ((int) (key ^ (key >>> 32)) * 31 + kind) * 31 + table;
      keyHead = (h ^ (h >>> 12) ^ (h >>> 24)) & (HEADS - 1);
      int p = heads[keyHead];
      while (p != 0 && (keys[p] != key || keyKinds[p] != kind || owners[p] != table)) {
        p = chain[p];
      }
      return p;
    }

    /** The place of a pair with the key, or 0. */
    int pair(int table, int kind, long key) {
      int p = find(table, kind, key);
      return valueKinds[p] == NIL ? 0 : p;
    }

    /** The pair of a key that is not nil becomes a value: false if there is no room for a place. */
    boolean put(int table, int kind, long key, int valueKind, long value) {
      int p = find(table, kind, key);
      if (p == 0) {
        if (valueKind == NIL) {
          return true;
        }
        p = add(table, kind, key);
        if (p == 0) {
          return false;
        }
      }
      boolean had = valueKinds[p] != NIL;
      valueKinds[p] = (byte) valueKind;
      values[p] = value;
      if (kind == WHOLE && !had && valueKind != NIL && key == length[table] + 1L) {
        lengthen(table);
      } else if (had && valueKind == NIL) {
        shorten(table, kind, key);
      }
      return true;
    }

    /** The pair goes, the place stays. */
    void drop(int p) {
      valueKinds[p] = NIL;
      shorten(owners[p], keyKinds[p], keys[p]);
    }

    /** The first place with a pair behind a place; 0: from the first one on, or there is none. */
    int nextPair(int table, int behind) {
      int p = behind == 0 ? first[table] : after[behind];
      while (p != 0 && valueKinds[p] == NIL) {
        p = after[p];
      }
      return p;
    }

    /** The place that so many others stand before, or 0. */
    int placeAt(int table, int k) {
      int p = first[table];
      for (int i = 0; i < k && p != 0; i++) {
        p = after[p];
      }
      return p;
    }

    /** Takes away the places without a pair. */
    void tidy(int table) {
      int kept = 0;
      int p = first[table];
      first[table] = 0;
      while (p != 0) {
        int next = after[p];
        if (valueKinds[p] == NIL) {
          giveBack(p);
        } else {
          if (kept == 0) {
            first[table] = p;
          } else {
            after[kept] = p;
          }
          kept = p;
        }
        p = next;
      }
      after[kept] = 0;
      last[table] = kept;
    }

    /** Takes away all places of a table that is gone. */
    void close(int table) {
      int p = first[table];
      while (p != 0) {
        int next = after[p];
        giveBack(p);
        p = next;
      }
      open(table);
    }

    /** A place for the key that was looked for and not found, or 0. */
    private int add(int table, int kind, long key) {
      if (placed >= PLACE_LIMIT) {
        return 0;
      }
      int p = free;
      if (p != 0) {
        free = after[p];
      } else {
        used++;
        p = used;
      }
      placed++;
      owners[p] = table;
      keyKinds[p] = (byte) kind;
      keys[p] = key;
      valueKinds[p] = NIL;
      after[p] = 0;
      if (first[table] == 0) {
        first[table] = p;
      } else {
        after[last[table]] = p;
      }
      last[table] = p;
      headOf[p] = keyHead;
      chain[p] = heads[keyHead];
      heads[keyHead] = p;
      return p;
    }

    private void giveBack(int p) {
      int h = headOf[p];
      if (heads[h] == p) {
        heads[h] = chain[p];
      } else {
        int q = heads[h];
        while (q != 0 && chain[q] != p) {
          q = chain[q];
        }
        chain[q] = chain[p];
      }
      valueKinds[p] = NIL;
      after[p] = free;
      free = p;
      placed--;
    }

    private void lengthen(int table) {
      int n = length[table] + 1;
      while (n < PLACE_LIMIT && valueKinds[find(table, WHOLE, n + 1)] != NIL) {
        n++;
      }
      length[table] = n;
    }

    private void shorten(int table, int kind, long key) {
      if (kind == WHOLE && key >= 1 && key <= length[table]) {
        length[table] = (int) key - 1;
      }
    }
  }

  /** The objects that were made, the cells that functions keep, and the parts. */
  private static final class Objects {
    static final int LIMIT = 2000;
    static final int PART_LIMIT = 25;

    // The kind of each object, 0 when it is gone.
    private final byte[] kinds = new byte[LIMIT + 1];
    // A function's FUNCTION, a part's slot.
    private final int[] details = new int[LIMIT + 1];
    private final int[] firstCells = new int[LIMIT + 1];
    private int made;
    private int gone;
    // Each function has a row of cells' numbers here.
    private int[] cells = new int[256];
    private int cellsUsed;
    private byte[] cellKinds = new byte[256];
    private long[] cellValues = new long[256];
    private int cellCount;
    private final Part[] parts = new Part[PART_LIMIT + 1];
    private int partCount;

    Objects() {
      parts[0] = new Part();
    }

    void clear() {
      made = 0;
      gone = 0;
      cellsUsed = 0;
      cellCount = 0;
      partCount = 0;
      parts[0].open(0, STATE_RUNNING);
    }

    /** A new object's number, or 0 without room. */
    int make(int kind) {
      if (made >= LIMIT) {
        return 0;
      }
      made++;
      kinds[made] = (byte) kind;
      firstCells[made] = cellsUsed;
      return made;
    }

    /** A new part with its function, or 0 without room. */
    int makePart(long function) {
      if (made >= LIMIT || partCount >= PART_LIMIT) {
        return 0;
      }
      int o = make(PART);
      partCount++;
      if (parts[partCount] == null) {
        parts[partCount] = new Part();
      }
      details[o] = partCount;
      parts[partCount].open(o, STATE_NEW);
      parts[partCount].slot = partCount;
      parts[partCount].push(FUNCTION, function);
      return o;
    }

    /** The part of an object's number, 0 being PART 0. */
    Part partOf(long object) {
      return object == 0 ? parts[0] : parts[details[(int) object]];
    }

    int newCell(int kind, long value) {
      if (cellCount == cellKinds.length) {
        cellKinds = Arrays.copyOf(cellKinds, cellCount * 2);
        cellValues = Arrays.copyOf(cellValues, cellCount * 2);
      }
      cellKinds[cellCount] = (byte) kind;
      cellValues[cellCount] = value;
      cellCount++;
      return cellCount - 1;
    }

    void keepCell(int cell) {
      if (cellsUsed == cells.length) {
        cells = Arrays.copyOf(cells, cellsUsed * 2);
      }
      cells[cellsUsed] = cell;
      cellsUsed++;
    }

    /** Behind an object's cells begin those of the one that was made next. */
    int endOfCells(int o) {
      return o < made ? firstCells[o + 1] : cellsUsed;
    }

    /** The cell that a function captured under an index. */
    int cellOf(int function, int index) {
      return cells[firstCells[function] + index];
    }
  }

  /** A part: a stack of values, and frames of what is entered in it. */
  private static final class Part {
    // Frame 0 is the part itself.
    static final int DEPTH_LIMIT = 20;
    static final int TEXT_FRAME = 0;
    static final int PCALL_FRAME = 1;
    static final int COLLECT_FRAME = 2;

    private byte[] kinds = new byte[64];
    private long[] values = new long[64];
    private int top;
    private final int[] modes = new int[DEPTH_LIMIT + 1];
    private final int[] functions = new int[DEPTH_LIMIT + 1];
    // Where a function of the text goes on, and where its locals begin; a gathering's frame has
    // there how many objects it took away, and how many last acts wait that are not its own.
    private final int[] nexts = new int[DEPTH_LIMIT + 1];
    private final int[] bases = new int[DEPTH_LIMIT + 1];
    // Where the results go, and how many are wanted there.
    private final int[] starts = new int[DEPTH_LIMIT + 1];
    private final int[] wants = new int[DEPTH_LIMIT + 1];
    private final int[] lines = new int[DEPTH_LIMIT + 1];
    private int depth;
    private int state;
    private int number;
    private int slot;
    // How many values are wanted where it waits, and the slot of the part that waits for it.
    private int want;
    private int resumer;

    void open(int object, int begin) {
      number = object;
      state = begin;
      top = 0;
      depth = 0;
      want = ALL;
      resumer = 0;
    }

    private void ensure(int more) {
      if (top + more > kinds.length) {
        int room = Math.max(kinds.length * 2, top + more);
        kinds = Arrays.copyOf(kinds, room);
        values = Arrays.copyOf(values, room);
      }
    }

    void push(int kind, long value) {
      ensure(1);
      kinds[top] = (byte) kind;
      values[top] = value;
      top++;
    }

    void set(int at, int kind, long value) {
      kinds[at] = (byte) kind;
      values[at] = value;
    }

    void pushNils(int n) {
      ensure(n);
      for (int i = 0; i < n; i++) {
        kinds[top] = NIL;
        values[top] = 0;
        top++;
      }
    }

    /** The value of a place in the stack is put on the top. */
    void pushCopy(int at) {
      push(kinds[at], values[at]);
    }

    private void move(int from, int to, int n) {
      System.arraycopy(kinds, from, kinds, to, n);
      System.arraycopy(values, from, values, to, n);
    }

    /** A value comes into the stack before what stands there. */
    void insert(int at, int kind, long value) {
      ensure(1);
      move(at, at + 1, top - at);
      top++;
      set(at, kind, value);
    }

    /** Values of another part's stack are put on the top. */
    void pushAll(Part other, int from, int end) {
      ensure(end - from);
      System.arraycopy(other.kinds, from, kinds, top, end - from);
      System.arraycopy(other.values, from, values, top, end - from);
      top += end - from;
    }

    /** The values from a place on become so many as are wanted, and stand at another place. */
    void give(int to, int from, int wanted) {
      int n = top - from;
      if (wanted != ALL && n > wanted) {
        n = wanted;
      }
      move(from, to, n);
      top = to + n;
      pushNils(wanted - n);
    }

    /**
     * What a function was called with becomes its first locals, others stand before them or are
     * left out: where the locals begin.
     */
    int settle(int start, int params, boolean dots) {
      int n = top - start - 1;
      int more = n - params;
      if (more <= 0 || !dots) {
        give(start, start + 1, params);
        return start;
      }
      ensure(params);
      move(start + 1, top, params);
      move(start + 1 + params, start, more + params);
      top = start + n;
      return start + more;
    }

    /** One more frame. */
    void enter(int mode, int function, int next, int base, int start, int wanted, int line) {
      depth++;
      modes[depth] = mode;
      functions[depth] = function;
      nexts[depth] = next;
      bases[depth] = base;
      starts[depth] = start;
      wants[depth] = wanted;
      lines[depth] = line;
    }

    boolean isFull() {
      return depth >= DEPTH_LIMIT;
    }

    boolean collects() {
      for (int i = 1; i <= depth; i++) {
        if (modes[i] == COLLECT_FRAME) {
          return true;
        }
      }
      return false;
    }
  }

  /** THE GATHERING, the tables that are marked, and the last acts that wait. */
  private static final class Gathering {
    private static final int WEAK_KEYS = 1;
    private static final int WEAK_VALUES = 2;

    private final Strings strings;
    private final Tables tables;
    private final Objects objects;
    private final byte[] reached = new byte[Objects.LIMIT + 1];
    // What each table holds weakly.
    private final int[] weaknesses = new int[Objects.LIMIT + 1];
    // Objects that are reached, but not yet looked into.
    private final int[] grays = new int[Objects.LIMIT + 1];
    private int grayCount;
    // Tables with weak keys alone: their values are reached when their keys are.
    private final int[] waiting = new int[Objects.LIMIT + 1];
    private int waitingCount;
    private final byte[] marked = new byte[Objects.LIMIT + 1];
    private final int[] markOrder = new int[Objects.LIMIT + 1];
    private int marks;
    // Tables whose last act waits; the last one is the next one.
    private final int[] acts = new int[Objects.LIMIT + 1];
    private int actCount;
    private int lastActs;

    Gathering(Strings strings, Tables tables, Objects objects) {
      this.strings = strings;
      this.tables = tables;
      this.objects = objects;
    }

    void clear() {
      Arrays.fill(marked, (byte) 0);
      marks = 0;
      actCount = 0;
      lastActs = 0;
    }

    void mark(int table) {
      if (marked[table] == 0 && marks < markOrder.length) {
        marked[table] = 1;
        markOrder[marks] = table;
        marks++;
      }
    }

    /** The table whose last act is next, which waits no longer. */
    int takeAct() {
      actCount--;
      return acts[actCount];
    }

    void countLastAct() {
      if (lastActs < COUNT_LIMIT) {
        lastActs++;
      }
    }

    /** Takes away what is not reached: how many objects. */
    int gather() {
      Arrays.fill(reached, 0, objects.made + 1, (byte) 0);
      grayCount = 0;
      waitingCount = 0;
      weigh();
      reachRoots();
      spread();
      dropWeak(false);
      noteLastActs();
      spread();
      dropWeak(true);
      int before = objects.gone;
      sweep();
      return objects.gone - before;
    }

    private void reachRoots() {
      reachPairs(0);
      for (int o = 1; o <= 3; o++) {
        reach(TABLE, o);
      }
      reachPart(objects.parts[0]);
      for (int s = 1; s <= objects.partCount; s++) {
        Part p = objects.parts[s];
        if (p.state == STATE_RUNNING || p.state == STATE_NORMAL) {
          reach(PART, p.number);
        }
      }
      for (int i = 0; i < actCount; i++) {
        reach(TABLE, acts[i]);
      }
    }

    private boolean isLost(int kind, long value) {
      return kind >= TABLE && kind <= PART && value > 0 && reached[(int) value] == 0;
    }

    private void reach(int kind, long value) {
      if (kind >= TABLE && kind <= PART && value > 0 && reached[(int) value] == 0) {
        reached[(int) value] = 1;
        grays[grayCount] = (int) value;
        grayCount++;
      }
    }

    private void reachCell(int cell) {
      reach(objects.cellKinds[cell], objects.cellValues[cell]);
    }

    /** All that is reached by what is reached. */
    private void spread() {
      for (int round = 0; round <= Objects.LIMIT; round++) {
        for (int i = 0; i <= Objects.LIMIT && grayCount > 0; i++) {
          grayCount--;
          lookInto(grays[grayCount]);
        }
        for (int i = 0; i < waitingCount; i++) {
          reachByKeys(waiting[i]);
        }
        if (grayCount == 0) {
          break;
        }
      }
    }

    private void lookInto(int o) {
      if (objects.kinds[o] == TABLE) {
        reach(TABLE, tables.metas[o]);
        reachPairs(o);
      } else if (objects.kinds[o] == FUNCTION) {
        int end = objects.endOfCells(o);
        for (int i = objects.firstCells[o]; i < end; i++) {
          reachCell(objects.cells[i]);
        }
      } else {
        reachPart(objects.partOf(o));
      }
    }

    private void reachPairs(int table) {
      int weak = weaknesses[table];
      if (weak == WEAK_KEYS) {
        waiting[waitingCount] = table;
        waitingCount++;
      }
      if ((weak & WEAK_KEYS) != 0) {
        return;
      }
      for (int p = tables.nextPair(table, 0); p != 0; p = tables.nextPair(table, p)) {
        reach(tables.keyKinds[p], tables.keys[p]);
        if (weak == 0) {
          reach(tables.valueKinds[p], tables.values[p]);
        }
      }
    }

    private void reachByKeys(int table) {
      for (int p = tables.nextPair(table, 0); p != 0; p = tables.nextPair(table, p)) {
        if (!isLost(tables.keyKinds[p], tables.keys[p])) {
          reach(tables.valueKinds[p], tables.values[p]);
        }
      }
    }

    private void weigh() {
      for (int o = 1; o <= objects.made; o++) {
        weaknesses[o] = objects.kinds[o] == TABLE ? weakness(o) : 0;
      }
    }

    private int weakness(int table) {
      int meta = tables.metas[table];
      int p = meta == 0 ? 0 : tables.pair(meta, STRING, Strings.EVENTS + EVENT_MODE);
      if (tables.valueKinds[p] != STRING) {
        return 0;
      }
      int mode = (int) tables.values[p];
      int weak = strings.has(mode, 'k') ? WEAK_KEYS : 0;
      return strings.has(mode, 'v') ? weak | WEAK_VALUES : weak;
    }

    private void reachPart(Part p) {
      if (p.state == STATE_DEAD) {
        return;
      }
      for (int i = 0; i < p.top; i++) {
        int kind = p.kinds[i];
        long value = p.values[i];
        if (kind == CELL) {
          int cell = (int) value;
          kind = objects.cellKinds[cell];
          value = objects.cellValues[cell];
        }
        reach(kind, value);
      }
      for (int i = 1; i <= p.depth; i++) {
        if (p.modes[i] == Part.TEXT_FRAME) {
          reach(FUNCTION, p.functions[i]);
        }
      }
    }

    /** Pairs of weak tables go whose value, and with keys told, whose key is not reached. */
    private void dropWeak(boolean keysToo) {
      for (int o = 1; o <= objects.made; o++) {
        int weak = weaknesses[o];
        if (weak == 0) {
          continue;
        }
        for (int p = tables.nextPair(o, 0); p != 0; p = tables.nextPair(o, p)) {
          boolean byKey = keysToo && (weak & WEAK_KEYS) != 0
              && isLost(tables.keyKinds[p], tables.keys[p]);
          boolean byValue = (weak & WEAK_VALUES) != 0
              && isLost(tables.valueKinds[p], tables.values[p]);
          if (byKey || byValue) {
            tables.drop(p);
          }
        }
      }
    }

    /** The latest marked is noted last, as the last one is taken first. */
    private void noteLastActs() {
      int kept = 0;
      int before = actCount;
      for (int i = 0; i < marks; i++) {
        int table = markOrder[i];
        if (reached[table] != 0) {
          markOrder[kept] = table;
          kept++;
        } else {
          marked[table] = 0;
          acts[actCount] = table;
          actCount++;
        }
      }
      marks = kept;
      for (int i = before; i < actCount; i++) {
        reach(TABLE, acts[i]);
      }
    }

    private void sweep() {
      tables.tidy(0);
      for (int o = 1; o <= objects.made; o++) {
        if (objects.kinds[o] == 0) {
          continue;
        }
        boolean isTable = objects.kinds[o] == TABLE;
        if (reached[o] != 0) {
          if (isTable) {
            tables.tidy(o);
          }
          continue;
        }
        if (isTable) {
          tables.close(o);
        }
        objects.kinds[o] = 0;
        objects.gone++;
      }
    }
  }

  /** The functions that are built in, but for those that call functions or change the part. */
  private static final class Library {
    static final int PRINT_LIMIT = 3000;
    // What call() answers instead of where the results begin: an error whose words are in the row
    // of the strings, one whose value is on the top, no room.
    static final int WORDS = -1;
    static final int VALUE = -2;
    static final int FULL = -3;

    // In the order of the names.
    static final int NEXT = 5;
    static final int PCALL = 15;
    static final int COLLECT = 17;
    static final int LIST_UNPACK = 22;
    static final int PART_GO = 28;
    static final int PART_STOP = 29;
    static final int PART_RUNNING = 31;
    static final int IPAIRS_STEP = 32;

    private static final String FIRST_NAMES =
        "print type tostring tonumber next pairs ipairs rawget rawset rawequal rawlen getmetatable ";
    private static final String MORE_NAMES =
        "setmetatable error pcall select collect list.insert list.remove list.concat list.pack ";
    private static final String LAST_NAMES =
        "list.unpack text.sub text.byte text.char text.rep part.new part.go part.stop part.state ";
    private static final String RUNNING_NAME = "part.running ipairs ";

    private final Strings strings;
    private final Tables tables;
    private final Objects objects;
    private final Gathering gathering;
    // The string of each one's name, and of the key that it has at first.
    private final int[] names = new int[IPAIRS_STEP + 1];
    private final int[] keys = new int[IPAIRS_STEP + 1];
    private final int[] shelves = new int[4];
    private final int packedKey;
    private final byte[] paper = new byte[PRINT_LIMIT];
    private long printed;
    // The call that is being answered: its values stand from first on.
    private Part part;
    private int id;
    private int first;
    private int given;
    private int line;
    private int from;

    Library(Strings strings, Tables tables, Objects objects, Gathering gathering) {
      this.strings = strings;
      this.tables = tables;
      this.objects = objects;
      this.gathering = gathering;
      int named = keepNames(FIRST_NAMES, 0);
      named = keepNames(MORE_NAMES, named);
      named = keepNames(LAST_NAMES, named);
      keepNames(RUNNING_NAME, named);
      shelves[1] = fixed("list");
      shelves[2] = fixed("text");
      shelves[3] = fixed("part");
      packedKey = fixed("n");
    }

    /** The names of those behind so many, a blank behind each: how many are named then. */
    private int keepNames(String all, int before) {
      int named = before;
      int start = 0;
      for (int i = 0; i < all.length() && named < IPAIRS_STEP; i++) {
        if (all.charAt(i) == ' ') {
          String name = all.substring(start, i);
          named++;
          names[named] = latent(name);
          keys[named] = fixed(name.substring(name.indexOf('.') + 1));
          start = i + 1;
        }
      }
      return named;
    }

    private int latent(String name) {
      strings.begin();
      strings.putWords(name);
      return strings.keepLatent();
    }

    private int fixed(String name) {
      strings.begin();
      strings.putWords(name);
      return strings.keepFixed();
    }

    /** The globals and the built-in tables, as they are at first. */
    void furnish() {
      printed = 0;
      for (int shelf = 1; shelf <= 3; shelf++) {
        newTable();
      }
      for (int f = 1; f < IPAIRS_STEP; f++) {
        int table = f <= COLLECT ? 0 : f <= LIST_UNPACK ? 1 : f <= LIST_UNPACK + 4 ? 2 : 3;
        tables.put(table, STRING, keys[f], FUNCTION, -f);
      }
      for (int shelf = 1; shelf <= 3; shelf++) {
        tables.put(0, STRING, shelves[shelf], TABLE, shelf);
      }
    }

    /** A new table's object, or 0 without room. */
    int newTable() {
      int o = objects.make(TABLE);
      if (o != 0) {
        tables.open(o);
      }
      return o;
    }

    static String typeName(int kind) {
      switch (kind) {
        case NIL:
          return "nil";
        case TRUTH:
          return "boolean";
        case WHOLE:
          return "number";
        case STRING:
          return "string";
        case TABLE:
          return "table";
        case FUNCTION:
          return "function";
        default:
          return "thread";
      }
    }

    /** Calls one whose values stand behind a place: where its results begin, or what is wrong. */
    int call(int function, Part running, int start, int callLine) {
      id = function;
      part = running;
      first = start + 1;
      given = running.top - first;
      line = callLine;
      from = running.top;
      int wrong = function <= COLLECT ? callGlobal() : callShelved();
      return wrong != 0 ? wrong : from;
    }

    private int callGlobal() {
      switch (id) {
        case 1:
          return print();
        case 2:
          strings.begin();
          strings.putWords(typeName(kind(1)));
          return pushMade();
        case 3:
          return textOf();
        case 4:
          return toNumber();
        case NEXT:
          return next();
        case 6:
          return pairs();
        case 7:
          return indexedPairs();
        case 8:
          return rawGet();
        case 9:
          return rawSet();
        case 10:
          return push(TRUTH, kind(1) == kind(2) && value(1) == value(2) ? 1 : 0);
        case 11:
          return rawLength();
        case 12:
          return getMeta();
        case 13:
          return setMeta();
        case 14:
          push(kind(1), value(1));
          return VALUE;
        default:
          return select();
      }
    }

    private int callShelved() {
      switch (id) {
        case 18:
          return insert();
        case 19:
          return remove();
        case 20:
          return concat();
        case 21:
          return pack();
        case 22:
          return unpack();
        case 23:
          return sub();
        case 24:
          return byteAt();
        case 25:
          return charsOf();
        case 26:
          return repeat();
        case 27:
          return newPart();
        case PART_GO:
          // The machine lets parts go on; what comes here is none.
          return refuse(1);
        case 30:
          return stateOf();
        case PART_RUNNING:
          return push(PART, part.number);
        default:
          return indexedStep();
      }
    }

    private int kind(int i) {
      return i <= given ? part.kinds[first + i - 1] : NIL;
    }

    private long value(int i) {
      return i <= given ? part.values[first + i - 1] : 0;
    }

    private int push(int kind, long value) {
      part.push(kind, value);
      return 0;
    }

    /** The row of the strings becomes a string, and a result. */
    private int pushMade() {
      int s = strings.make();
      if (s == NONE) {
        return FULL;
      }
      part.push(STRING, s);
      return 0;
    }

    private int pushPlace(int p) {
      part.push(tables.valueKinds[p], tables.valueKinds[p] == NIL ? 0 : tables.values[p]);
      return 0;
    }

    /** Value n is not as told. */
    private int refuse(int n) {
      strings.begin();
      strings.putWhole(line);
      strings.putWords(": argument ");
      strings.putWhole(n);
      strings.putWords(" of ");
      strings.putString(names[id]);
      return WORDS;
    }

    private int refuseWith(String words) {
      strings.begin();
      strings.putWhole(line);
      strings.putWords(": ");
      strings.putWords(words);
      return WORDS;
    }

    /** The text of a value comes to the row of the strings. */
    private void putText(int kind, long value) {
      if (kind == NIL) {
        strings.putWords("nil");
      } else if (kind == TRUTH) {
        strings.putWords(value == 0 ? "false" : "true");
      } else if (kind == WHOLE) {
        strings.putWhole(value);
      } else if (kind == STRING) {
        strings.putString((int) value);
      } else {
        strings.putWords(typeName(kind));
        strings.putWords(": ");
        if (kind == FUNCTION && value < 0) {
          strings.putString(names[(int) -value]);
        } else {
          strings.putWhole(value);
        }
      }
    }

    private int print() {
      for (int i = 1; i <= given; i++) {
        strings.begin();
        if (i > 1) {
          strings.put(' ');
        }
        putText(kind(i), value(i));
        printRow();
      }
      strings.begin();
      strings.put(10);
      printRow();
      return 0;
    }

    private void printRow() {
      int n = strings.rowLength();
      for (int i = 0; i < n && printed + i < PRINT_LIMIT; i++) {
        paper[(int) printed + i] = (byte) strings.rowByte(i);
      }
      printed += n;
    }

    private int textOf() {
      if (kind(1) == STRING) {
        return push(STRING, value(1));
      }
      strings.begin();
      putText(kind(1), value(1));
      return pushMade();
    }

    private int toNumber() {
      if (kind(1) == WHOLE) {
        return push(WHOLE, value(1));
      }
      if (kind(1) != STRING) {
        return push(NIL, 0);
      }
      int s = (int) value(1);
      int n = strings.lengthOf(s);
      int begin = n > 0 && strings.byteOf(s, 0) == '-' ? 1 : 0;
      long whole = 0;
      boolean good = n - begin >= 1 && n - begin <= 18;
      for (int i = begin; i < n && good; i++) {
        int d = strings.byteOf(s, i) - '0';
        good = d >= 0 && d <= 9;
        whole = whole * 10 + d;
      }
      return good ? push(WHOLE, begin == 1 ? -whole : whole) : push(NIL, 0);
    }

    private int next() {
      if (kind(1) != TABLE) {
        return refuse(1);
      }
      int table = (int) value(1);
      int behind = 0;
      if (kind(2) != NIL) {
        behind = tables.find(table, kind(2), value(2));
        if (behind == 0) {
          return refuse(2);
        }
      }
      int p = tables.nextPair(table, behind);
      if (p == 0) {
        return push(NIL, 0);
      }
      part.push(tables.keyKinds[p], tables.keys[p]);
      return pushPlace(p);
    }

    private int pairs() {
      if (kind(1) != TABLE) {
        return refuse(1);
      }
      part.push(FUNCTION, -NEXT);
      part.push(TABLE, value(1));
      return push(NIL, 0);
    }

    private int indexedPairs() {
      if (kind(1) != TABLE) {
        return refuse(1);
      }
      part.push(FUNCTION, -IPAIRS_STEP);
      part.push(TABLE, value(1));
      return push(WHOLE, 0);
    }

    private int indexedStep() {
      if (kind(1) != TABLE) {
        return refuse(1);
      }
      if (kind(2) != WHOLE) {
        return refuse(2);
      }
      long i = value(2) + 1;
      int p = tables.pair((int) value(1), WHOLE, i);
      if (p != 0) {
        part.push(WHOLE, i);
      }
      return pushPlace(p);
    }

    private int rawGet() {
      if (kind(1) != TABLE) {
        return refuse(1);
      }
      return pushPlace(tables.pair((int) value(1), kind(2), value(2)));
    }

    private int rawSet() {
      if (kind(1) != TABLE) {
        return refuse(1);
      }
      if (kind(2) == NIL) {
        return refuse(2);
      }
      if (!tables.put((int) value(1), kind(2), value(2), kind(3), value(3))) {
        return FULL;
      }
      return push(TABLE, value(1));
    }

    private int rawLength() {
      if (kind(1) == TABLE) {
        return push(WHOLE, tables.length[(int) value(1)]);
      }
      return kind(1) == STRING ? push(WHOLE, strings.lengthOf((int) value(1))) : refuse(1);
    }

    private int getMeta() {
      int meta = kind(1) == TABLE ? tables.metas[(int) value(1)] : 0;
      return meta == 0 ? push(NIL, 0) : push(TABLE, meta);
    }

    private int setMeta() {
      if (kind(1) != TABLE) {
        return refuse(1);
      }
      if (kind(2) != NIL && kind(2) != TABLE) {
        return refuse(2);
      }
      int table = (int) value(1);
      int meta = kind(2) == TABLE ? (int) value(2) : 0;
      tables.metas[table] = meta;
      if (meta != 0 && tables.pair(meta, STRING, Strings.EVENTS + EVENT_GC) != 0) {
        gathering.mark(table);
      }
      return push(TABLE, table);
    }

    private int select() {
      int others = Math.max(given - 1, 0);
      if (kind(1) == STRING) {
        int s = (int) value(1);
        boolean all = strings.lengthOf(s) == 1 && strings.byteOf(s, 0) == '#';
        return all ? push(WHOLE, others) : refuse(1);
      }
      long n = value(1);
      if (kind(1) != WHOLE || n == 0 || n < -others) {
        return refuse(1);
      }
      if (n < 0) {
        from = part.top + (int) n;
      } else if (n <= others) {
        from = first + (int) n;
      }
      return 0;
    }

    private int insert() {
      if (kind(1) != TABLE) {
        return refuse(1);
      }
      int table = (int) value(1);
      int n = tables.length[table];
      if (given == 2) {
        return tables.put(table, WHOLE, n + 1, kind(2), value(2)) ? 0 : FULL;
      }
      if (given != 3 || kind(2) != WHOLE || value(2) < 1 || value(2) > n + 1) {
        return refuse(2);
      }
      int i = (int) value(2);
      for (int j = n; j >= i; j--) {
        int p = tables.pair(table, WHOLE, j);
        if (!tables.put(table, WHOLE, j + 1, tables.valueKinds[p], tables.values[p])) {
          return FULL;
        }
      }
      return tables.put(table, WHOLE, i, kind(3), value(3)) ? 0 : FULL;
    }

    private int remove() {
      if (kind(1) != TABLE) {
        return refuse(1);
      }
      int table = (int) value(1);
      int n = tables.length[table];
      if (kind(2) == NIL && n == 0) {
        return push(NIL, 0);
      }
      if (kind(2) != NIL && (kind(2) != WHOLE || value(2) < 1 || value(2) > n)) {
        return refuse(2);
      }
      int i = kind(2) == NIL ? n : (int) value(2);
      pushPlace(tables.pair(table, WHOLE, i));
      for (int j = i; j < n; j++) {
        int p = tables.pair(table, WHOLE, j + 1);
        tables.put(table, WHOLE, j, tables.valueKinds[p], tables.values[p]);
      }
      tables.put(table, WHOLE, n, NIL, 0);
      return 0;
    }

    private int concat() {
      if (kind(1) != TABLE) {
        return refuse(1);
      }
      int table = (int) value(1);
      int n = tables.length[table];
      for (int i = 1; i <= n; i++) {
        int kind = tables.valueKinds[tables.pair(table, WHOLE, i)];
        if (kind != STRING && kind != WHOLE) {
          return refuse(1);
        }
      }
      if (kind(2) != NIL && kind(2) != STRING) {
        return refuse(2);
      }
      strings.begin();
      for (int i = 1; i <= n; i++) {
        if (i > 1 && kind(2) == STRING) {
          strings.putString((int) value(2));
        }
        int p = tables.pair(table, WHOLE, i);
        if (strings.rowLength() <= Strings.LENGTH_LIMIT) {
          putText(tables.valueKinds[p], tables.values[p]);
        }
        if (strings.rowLength() > Strings.LENGTH_LIMIT) {
          return refuseWith("too long");
        }
      }
      return pushMade();
    }

    private int pack() {
      int table = newTable();
      if (table == 0) {
        return FULL;
      }
      for (int i = 1; i <= given; i++) {
        if (!tables.put(table, WHOLE, i, kind(i), value(i))) {
          return FULL;
        }
      }
      if (!tables.put(table, STRING, packedKey, WHOLE, given)) {
        return FULL;
      }
      return push(TABLE, table);
    }

    private int unpack() {
      if (kind(1) != TABLE) {
        return refuse(1);
      }
      int table = (int) value(1);
      int n = tables.length[table];
      if (n > VALUE_LIMIT) {
        return refuseWith("too many values");
      }
      for (int i = 1; i <= n; i++) {
        pushPlace(tables.pair(table, WHOLE, i));
      }
      return 0;
    }

    private int sub() {
      if (kind(1) != STRING) {
        return refuse(1);
      }
      if (kind(2) != WHOLE) {
        return refuse(2);
      }
      if (kind(3) != WHOLE && kind(3) != NIL) {
        return refuse(3);
      }
      int s = (int) value(1);
      int n = strings.lengthOf(s);
      long i = value(2);
      long j = kind(3) == NIL ? -1 : value(3);
      i = Math.max(i < 0 ? n + i + 1 : i, 1);
      j = Math.min(j < 0 ? n + j + 1 : j, n);
      strings.begin();
      if (i <= j) {
        strings.putPiece(s, (int) i - 1, (int) j);
      }
      return pushMade();
    }

    private int byteAt() {
      if (kind(1) != STRING) {
        return refuse(1);
      }
      if (kind(2) != WHOLE && kind(2) != NIL) {
        return refuse(2);
      }
      int s = (int) value(1);
      int n = strings.lengthOf(s);
      long i = kind(2) == NIL ? 1 : value(2);
      i = i < 0 ? n + i + 1 : i;
      return i >= 1 && i <= n ? push(WHOLE, strings.byteOf(s, (int) i - 1)) : 0;
    }

    private int charsOf() {
      strings.begin();
      for (int i = 1; i <= given; i++) {
        if (kind(i) != WHOLE || value(i) < 0 || value(i) > 255) {
          return refuse(i);
        }
        strings.put((int) value(i));
      }
      return pushMade();
    }

    private int repeat() {
      if (kind(1) != STRING) {
        return refuse(1);
      }
      if (kind(2) != WHOLE) {
        return refuse(2);
      }
      int s = (int) value(1);
      int n = strings.lengthOf(s);
      long times = n == 0 ? 0 : value(2);
      if (n > 0 && times > Strings.LENGTH_LIMIT / n) {
        return refuseWith("too long");
      }
      strings.begin();
      for (int i = 0; i < times; i++) {
        strings.putString(s);
      }
      return pushMade();
    }

    private int newPart() {
      if (kind(1) != FUNCTION) {
        return refuse(1);
      }
      int o = objects.makePart(value(1));
      return o == 0 ? FULL : push(PART, o);
    }

    private int stateOf() {
      if (kind(1) != PART) {
        return refuse(1);
      }
      strings.begin();
      switch (objects.partOf(value(1)).state) {
        case STATE_NEW:
          strings.putWords("new");
          break;
        case STATE_STOPPED:
          strings.putWords("stopped");
          break;
        case STATE_RUNNING:
          strings.putWords("running");
          break;
        case STATE_NORMAL:
          strings.putWords("normal");
          break;
        default:
          strings.putWords("dead");
          break;
      }
      return pushMade();
    }
  }

  /** The run: it works instructions and calls one by one, so that it can be cut before any step. */
  private static final class Machine {
    private static final int CHAIN_LIMIT = 20;
    private static final int NESTED_PARTS_LIMIT = 10;
    // Far above what lies between so many steps.
    private static final int TURN_LIMIT = 1000000000;

    // What the next turn is.
    private static final int NOTHING = 0;
    private static final int CALLING = 1;
    private static final int PROTECTING = 2;
    private static final int COLLECTING = 3;
    private static final int WAKING = 4;
    private static final int STOPPING = 5;
    private static final int ANSWERING = 6;
    private static final int FAILING = 7;
    private static final int RAISING = 8;
    private static final int LEAVING = 9;
    private static final int PROTECTED = 10;
    private static final int ACTING = 11;
    private static final int ACCESS = 12;
    private static final int WORK = 13;
    private static final int FLOW = 14;
    private static final int OPERATE = 15;

    private final Program program;
    private final Strings strings;
    private final Tables tables;
    private final Objects objects;
    private final Gathering gathering;
    private final Library library;
    private Part now;
    private int status;
    private long stepsDone;
    // How many steps this go has left; below 0 it is cut.
    private int left;
    private int nestedParts;
    private int pending;
    private int callStart;
    private int callWant;
    private int callLine;
    private int callId;
    // The instruction that is worked.
    private int at;
    private int errorKind;
    private long errorValue;

    Machine(Program program, Strings strings, Tables tables, Objects objects,
        Gathering gathering) {
      this.program = program;
      this.strings = strings;
      this.tables = tables;
      this.objects = objects;
      this.gathering = gathering;
      library = new Library(strings, tables, objects, gathering);
    }

    /** LOADING. */
    void reset() {
      strings.dropMade();
      objects.clear();
      tables.clear();
      gathering.clear();
      library.furnish();
      status = GOING;
      stepsDone = 0;
      nestedParts = 0;
      pending = NOTHING;
      now = objects.parts[0];
      now.enter(Part.TEXT_FRAME, 0, program.entries[0], 0, 0, ALL, 0);
    }

    int resultCount() {
      return status == ENDED || status == FAILED ? objects.parts[0].top : 0;
    }

    /** Goes on for so many steps at most: how the run stands then. */
    int go(int budget) {
      left = budget;
      for (int i = 0; i < TURN_LIMIT && status == GOING && left >= 0; i++) {
        switch (pending != NOTHING ? pending : nextTurn()) {
          case CALLING:
            call();
            break;
          case PROTECTING:
            protect();
            break;
          case COLLECTING:
            collect();
            break;
          case WAKING:
            wake();
            break;
          case STOPPING:
            stop();
            break;
          case ANSWERING:
            answer(library.call(callId, now, callStart, callLine));
            break;
          case FAILING:
            makeError();
            break;
          case RAISING:
            raise();
            break;
          case LEAVING:
            leave();
            break;
          case PROTECTED:
            unprotect();
            break;
          case ACTING:
            act();
            break;
          case ACCESS:
            access(program.ops[at], program.as[at]);
            break;
          case WORK:
            work(program.ops[at], program.as[at], program.bs[at], program.lines[at]);
            break;
          case FLOW:
            flow(program.ops[at], program.as[at], program.bs[at], program.lines[at]);
            break;
          default:
            operate(program.ops[at], program.lines[at]);
            break;
        }
      }
      return status;
    }

    /** What the topmost frame does next; an instruction of it is taken. */
    private int nextTurn() {
      Part p = now;
      int d = p.depth;
      if (d == 0) {
        return LEAVING;
      }
      if (p.modes[d] != Part.TEXT_FRAME) {
        return p.modes[d] == Part.PCALL_FRAME ? PROTECTED : ACTING;
      }
      at = p.nexts[d];
      p.nexts[d] = at + 1;
      int op = program.ops[at];
      if (op >= OP_ADD) {
        return OPERATE;
      }
      return op < OP_INDEX ? ACCESS : op < OP_JUMP ? WORK : FLOW;
    }

    /** The value at a place of the stack is called next, with all that stands above it. */
    private void request(int start, int want, int line) {
      pending = CALLING;
      callStart = start;
      callWant = want;
      callLine = line;
    }

    private void fail(int line, String words) {
      strings.begin();
      strings.putWhole(line);
      strings.putWords(": ");
      strings.putWords(words);
      pending = FAILING;
    }

    private void failWithType(int line, String words, int kind) {
      fail(line, words);
      strings.putWords(Library.typeName(kind));
    }

    /** The row of the strings becomes an error's value. */
    private void makeError() {
      int s = strings.make();
      if (s == NONE) {
        status = NO_ROOM;
        return;
      }
      errorKind = STRING;
      errorValue = s;
      pending = RAISING;
    }

    /** An error goes to what catches it in this part, or through the part's end. */
    private void raise() {
      pending = NOTHING;
      Part p = now;
      while (p.depth > 0 && p.modes[p.depth] == Part.TEXT_FRAME) {
        p.depth--;
      }
      int d = p.depth;
      int start = p.starts[d];
      if (d == 0) {
        p.top = 0;
        p.push(errorKind, errorValue);
        endPart(false);
      } else if (p.modes[d] == Part.COLLECT_FRAME) {
        p.top = start;
      } else {
        p.depth--;
        p.top = start;
        p.push(TRUTH, 0);
        p.push(errorKind, errorValue);
        p.give(start, start, p.wants[d]);
      }
    }

    /** The results of a part's function have come. */
    private void leave() {
      endPart(true);
    }

    private void endPart(boolean good) {
      if (now.slot == 0) {
        status = good ? ENDED : FAILED;
        return;
      }
      Part p = now;
      handOver(p, 0, good);
      p.state = STATE_DEAD;
      p.top = 0;
      p.depth = 0;
    }

    /** The part that waits for this one goes on, with a truth and the values from a place on. */
    private void handOver(Part p, int from, boolean good) {
      Part c = objects.parts[p.resumer];
      int to = c.top;
      c.push(TRUTH, good ? 1 : 0);
      c.pushAll(p, from, p.top);
      c.give(to, to, c.want);
      c.state = STATE_RUNNING;
      nestedParts--;
      now = c;
    }

    /** The event's place of a value, or 0. */
    private int event(int kind, long value, int event) {
      int meta = kind == TABLE ? tables.metas[(int) value] : 0;
      return meta == 0 ? 0 : tables.pair(meta, STRING, Strings.EVENTS + event);
    }

    /** Finds the function that a call comes to, and what it is. */
    private void call() {
      Part p = now;
      pending = NOTHING;
      for (int i = 0; i < CHAIN_LIMIT; i++) {
        int kind = p.kinds[callStart];
        long value = p.values[callStart];
        if (kind == FUNCTION) {
          enterFunction(p, value);
          return;
        }
        int h = event(kind, value, EVENT_CALL);
        if (h == 0) {
          failWithType(callLine, "call of ", kind);
          return;
        }
        p.insert(callStart, tables.valueKinds[h], tables.values[h]);
      }
      fail(callLine, "loop");
    }

    private void enterFunction(Part p, long value) {
      callId = value < 0 ? (int) -value : 0;
      boolean counts = value > 0 || callId == Library.PCALL || callId == Library.COLLECT;
      if (counts && p.isFull()) {
        fail(callLine, "stack overflow");
      } else if (value > 0) {
        int f = objects.details[(int) value];
        int base = p.settle(callStart, program.params[f], program.dots[f]);
        p.enter(Part.TEXT_FRAME, (int) value, program.entries[f], base, callStart, callWant,
            callLine);
      } else if (callId == Library.PCALL) {
        pending = PROTECTING;
      } else if (callId == Library.COLLECT) {
        pending = COLLECTING;
      } else if (callId == Library.PART_STOP) {
        pending = STOPPING;
      } else if (callId == Library.PART_GO && p.top > callStart + 1
          && p.kinds[callStart + 1] == PART) {
        pending = WAKING;
      } else {
        pending = ANSWERING;
      }
    }

    /** What a built-in function answered. */
    private void answer(int from) {
      pending = NOTHING;
      if (from == Library.WORDS) {
        pending = FAILING;
      } else if (from == Library.VALUE) {
        now.top--;
        errorKind = now.kinds[now.top];
        errorValue = now.values[now.top];
        pending = RAISING;
      } else if (from == Library.FULL) {
        status = NO_ROOM;
      } else {
        now.give(callStart, from, callWant);
      }
    }

    /** pcall: its own place in the stack is kept for the truth that comes before the results. */
    private void protect() {
      Part p = now;
      p.enter(Part.PCALL_FRAME, 0, 0, 0, callStart, callWant, callLine);
      if (p.top == callStart + 1) {
        p.pushNils(1);
      }
      request(callStart + 1, ALL, callLine);
    }

    private void unprotect() {
      Part p = now;
      int d = p.depth;
      p.depth--;
      p.set(p.starts[d], TRUTH, 1);
      p.give(p.starts[d], p.starts[d], p.wants[d]);
    }

    /** collect: what was given to it is dropped before anything is reached. */
    private void collect() {
      Part p = now;
      pending = NOTHING;
      p.top = callStart;
      int waiting = gathering.actCount;
      int taken = gathering.gather();
      p.enter(Part.COLLECT_FRAME, 0, taken, waiting, callStart, callWant, callLine);
    }

    /** The next last act of the topmost gathering, or its end. */
    private void act() {
      Part p = now;
      int d = p.depth;
      int start = p.starts[d];
      p.top = start;
      for (int i = gathering.actCount; i > p.bases[d]; i--) {
        int table = gathering.takeAct();
        int h = event(TABLE, table, EVENT_GC);
        if (tables.valueKinds[h] == FUNCTION) {
          gathering.countLastAct();
          p.push(FUNCTION, tables.values[h]);
          p.push(TABLE, table);
          request(start, 0, p.lines[d]);
          return;
        }
      }
      p.depth--;
      p.push(WHOLE, p.nexts[d]);
      p.give(start, start, p.wants[d]);
    }

    /** part.go with a part. */
    private void wake() {
      Part c = now;
      Part p = objects.partOf(c.values[callStart + 1]);
      pending = NOTHING;
      if (p.state != STATE_NEW && p.state != STATE_STOPPED) {
        refuseToWake(p.state == STATE_DEAD ? "dead part" : "busy part");
        return;
      }
      if (nestedParts >= NESTED_PARTS_LIMIT) {
        fail(callLine, "stack overflow");
        return;
      }
      boolean begins = p.state == STATE_NEW;
      int to = p.top;
      p.pushAll(c, callStart + 2, c.top);
      c.top = callStart;
      c.want = callWant;
      c.state = STATE_NORMAL;
      p.resumer = c.slot;
      p.state = STATE_RUNNING;
      nestedParts++;
      now = p;
      if (begins) {
        request(0, ALL, callLine);
      } else {
        p.give(to, to, p.want);
      }
    }

    private void refuseToWake(String words) {
      strings.begin();
      strings.putWords(words);
      int s = strings.make();
      if (s == NONE) {
        status = NO_ROOM;
        return;
      }
      int from = now.top;
      now.push(TRUTH, 0);
      now.push(STRING, s);
      now.give(callStart, from, callWant);
    }

    /** part.stop. */
    private void stop() {
      Part p = now;
      pending = NOTHING;
      if (p.slot == 0 || p.collects()) {
        fail(callLine, "stop outside a part");
        return;
      }
      handOver(p, callStart + 1, true);
      p.top = callStart;
      p.want = callWant;
      p.state = STATE_STOPPED;
    }

    private void putPair(long table, int kind, long key, int valueKind, long value) {
      if (!tables.put((int) table, kind, key, valueKind, value)) {
        status = NO_ROOM;
      }
    }

    /** Instructions that bring values to the stack, and names to other values. */
    private void access(int op, int a) {
      Part p = now;
      int d = p.depth;
      switch (op) {
        case OP_STEP:
          step(p, d);
          break;
        case OP_NILS:
          p.pushNils(a);
          break;
        case OP_TRUTH:
          p.push(TRUTH, a);
          break;
        case OP_WHOLE:
          p.push(WHOLE, program.wholes[a]);
          break;
        case OP_STRING:
          p.push(STRING, a);
          break;
        case OP_LOCAL:
          readLocal(p, p.bases[d] + a);
          break;
        case OP_SET_LOCAL:
          p.top--;
          writeLocal(p, p.bases[d] + a);
          break;
        case OP_CAPTURED:
          readCell(p, objects.cellOf(p.functions[d], a));
          break;
        case OP_SET_CAPTURED:
          p.top--;
          writeCell(p, objects.cellOf(p.functions[d], a));
          break;
        case OP_GLOBAL:
          int place = tables.pair(0, STRING, a);
          p.push(tables.valueKinds[place], tables.values[place]);
          break;
        default:
          p.top--;
          putPair(0, STRING, a, p.kinds[p.top], p.values[p.top]);
          break;
      }
    }

    private void step(Part p, int d) {
      if (left == 0) {
        // The step comes again, first thing when the run goes on.
        p.nexts[d] = at;
        left = NONE;
      } else {
        left--;
        stepsDone++;
      }
    }

    private void readLocal(Part p, int slot) {
      if (p.kinds[slot] == CELL) {
        readCell(p, (int) p.values[slot]);
      } else {
        p.pushCopy(slot);
      }
    }

    private void readCell(Part p, int cell) {
      p.push(objects.cellKinds[cell], objects.cellValues[cell]);
    }

    /** The value that was on the top goes to a local. */
    private void writeLocal(Part p, int slot) {
      if (p.kinds[slot] == CELL) {
        writeCell(p, (int) p.values[slot]);
      } else {
        p.set(slot, p.kinds[p.top], p.values[p.top]);
      }
    }

    private void writeCell(Part p, int cell) {
      objects.cellKinds[cell] = p.kinds[p.top];
      objects.cellValues[cell] = p.values[p.top];
    }

    /** Instructions of tables, functions and calls. */
    private void work(int op, int a, int b, int line) {
      Part p = now;
      int base = p.bases[p.depth];
      switch (op) {
        case OP_INDEX:
          read(line);
          break;
        case OP_STORE:
          store(base + a, line);
          break;
        case OP_TABLE:
          makeTable();
          break;
        case OP_FIELD:
          putField(line);
          break;
        case OP_ITEM:
          p.top--;
          putPair(p.values[p.top - 1], WHOLE, a, p.kinds[p.top], p.values[p.top]);
          break;
        case OP_ITEMS:
          putItems(a, base + b);
          break;
        case OP_DOTS:
          pushDots(b);
          break;
        case OP_FUNCTION:
          makeFunction(a, b);
          break;
        case OP_CALL:
          if (p.top - base - a - 1 > VALUE_LIMIT) {
            fail(line, "too many values");
          } else {
            request(base + a, b, line);
          }
          break;
        default:
          returnRow(base + a, line);
          break;
      }
    }

    /** READ: a value and a key on the top become what is found. */
    private void read(int line) {
      Part p = now;
      int to = p.top - 2;
      int kind = p.kinds[to];
      long value = p.values[to];
      int keyKind = p.kinds[to + 1];
      long key = p.values[to + 1];
      for (int i = 0; i < CHAIN_LIMIT; i++) {
        int pair = kind == TABLE ? tables.pair((int) value, keyKind, key) : 0;
        int h = pair != 0 ? 0 : event(kind, value, EVENT_INDEX);
        if (h == 0) {
          p.top--;
          p.set(to, tables.valueKinds[pair], tables.values[pair]);
          if (kind != TABLE) {
            failWithType(line, "index of ", kind);
          }
          return;
        }
        if (tables.valueKinds[h] == FUNCTION) {
          p.set(to, FUNCTION, tables.values[h]);
          p.set(to + 1, kind, value);
          p.push(keyKind, key);
          request(to, 1, line);
          return;
        }
        kind = tables.valueKinds[h];
        value = tables.values[h];
      }
      fail(line, "loop");
    }

    /**
     * WRITE: the value on the top goes to the pair of a table and a key that stand below. These
     * are taken out of the stack, as nothing needs them any more when an event is called.
     */
    private void store(int slot, int line) {
      Part p = now;
      int kind = p.kinds[slot];
      long value = p.values[slot];
      int keyKind = p.kinds[slot + 1];
      long key = p.values[slot + 1];
      p.set(slot, NIL, 0);
      p.set(slot + 1, NIL, 0);
      p.top--;
      int start = p.top;
      int newKind = p.kinds[start];
      long newValue = p.values[start];
      for (int i = 0; i < CHAIN_LIMIT; i++) {
        boolean there = kind == TABLE && tables.pair((int) value, keyKind, key) != 0;
        int h = there ? 0 : event(kind, value, EVENT_NEWINDEX);
        if (h == 0) {
          if (kind != TABLE) {
            failWithType(line, "index of ", kind);
          } else if (keyKind == NIL) {
            fail(line, "index is nil");
          } else {
            putPair(value, keyKind, key, newKind, newValue);
          }
          return;
        }
        if (tables.valueKinds[h] == FUNCTION) {
          p.push(FUNCTION, tables.values[h]);
          p.push(kind, value);
          p.push(keyKind, key);
          p.push(newKind, newValue);
          request(start, 0, line);
          return;
        }
        kind = tables.valueKinds[h];
        value = tables.values[h];
      }
      fail(line, "loop");
    }

    private void makeTable() {
      int o = library.newTable();
      if (o == 0) {
        status = NO_ROOM;
      } else {
        now.push(TABLE, o);
      }
    }

    /** A table, a key and a value on the top: the pair is written. */
    private void putField(int line) {
      Part p = now;
      p.top -= 2;
      int key = p.top;
      if (p.kinds[key] == NIL) {
        fail(line, "index is nil");
      } else {
        putPair(p.values[key - 1], p.kinds[key], p.values[key], p.kinds[key + 1],
            p.values[key + 1]);
      }
    }

    /** All values above the table at a place go to it, from an index on. */
    private void putItems(int index, int table) {
      Part p = now;
      int n = p.top - table - 1;
      p.top = table + 1;
      for (int i = 0; i < n && status == GOING; i++) {
        int from = table + 1 + i;
        putPair(p.values[table], WHOLE, index + i, p.kinds[from], p.values[from]);
      }
    }

    private void pushDots(int want) {
      Part p = now;
      int start = p.starts[p.depth];
      int n = p.bases[p.depth] - start;
      if (want != ALL) {
        n = Math.min(n, 1);
      }
      for (int i = 0; i < n; i++) {
        p.pushCopy(start + i);
      }
      if (want != ALL && n == 0) {
        p.pushNils(1);
      }
    }

    private void makeFunction(int f, int behind) {
      Part p = now;
      int d = p.depth;
      int o = objects.make(FUNCTION);
      if (o == 0) {
        status = NO_ROOM;
        return;
      }
      objects.details[o] = f;
      for (int i = 0; i < program.captures[f]; i++) {
        int source = program.sources[f * Program.CAPTURE_LIMIT + i];
        objects.keepCell(source >= 0
            ? cellOfSlot(p, p.bases[d] + source)
            : objects.cellOf(p.functions[d], ~source));
      }
      p.push(FUNCTION, o);
      p.nexts[d] = behind;
    }

    /** The cell of a local, which gets one when a function captures it first. */
    private int cellOfSlot(Part p, int slot) {
      if (p.kinds[slot] != CELL) {
        p.set(slot, CELL, objects.newCell(p.kinds[slot], p.values[slot]));
      }
      return (int) p.values[slot];
    }

    private void returnRow(int from, int line) {
      Part p = now;
      int d = p.depth;
      if (p.top - from > VALUE_LIMIT) {
        fail(line, "too many values");
        return;
      }
      p.depth--;
      p.give(p.starts[d], from, p.wants[d]);
    }

    /** Instructions that lead elsewhere, or put the stack in order. */
    private void flow(int op, int a, int b, int line) {
      Part p = now;
      int base = p.bases[p.depth];
      int last = p.top - 1;
      switch (op) {
        case OP_JUMP:
          jump(b);
          break;
        case OP_JUMP_FALSE:
          p.top--;
          jumpIf(isFalse(p, last), b);
          break;
        case OP_AND:
        case OP_OR:
          if (isFalse(p, last) == (op == OP_AND)) {
            jump(b);
          } else {
            p.top--;
          }
          break;
        case OP_NOT:
          p.set(last, TRUTH, isFalse(p, last) ? 1 : 0);
          break;
        case OP_TRUTHY:
          p.set(last, TRUTH, isFalse(p, last) ? 0 : 1);
          break;
        case OP_CUT:
          p.top = base + a;
          break;
        case OP_ADJUST:
          if (p.top - base - a > VALUE_LIMIT) {
            fail(line, "too many values");
          } else {
            p.give(base + a, base + a, b);
          }
          break;
        case OP_COPY:
          p.pushCopy(last);
          break;
        case OP_SWAP:
          p.pushCopy(last - 1);
          p.give(last - 1, last, ALL);
          break;
        case OP_FOR_CHECK:
          checkFor(base + a, line);
          break;
        case OP_FOR_TEST:
          testFor(base + a, b);
          break;
        case OP_FOR_NEXT:
          nextFor(base + a, b);
          break;
        default:
          jumpIf(p.kinds[base + a + 3] == NIL, b);
          p.set(base + a + 2, p.kinds[base + a + 3], p.values[base + a + 3]);
          break;
      }
    }

    private void jump(int to) {
      now.nexts[now.depth] = to;
    }

    private void jumpIf(boolean so, int to) {
      if (so) {
        jump(to);
      }
    }

    private static boolean isFalse(Part p, int slot) {
      return p.kinds[slot] == NIL || p.kinds[slot] == TRUTH && p.values[slot] == 0;
    }

    private void checkFor(int slot, int line) {
      Part p = now;
      for (int i = 0; i < 3; i++) {
        if (p.kinds[slot + i] != WHOLE) {
          fail(line, "for");
          return;
        }
      }
      if (p.values[slot + 2] == 0) {
        fail(line, "for is zero");
      }
    }

    private void testFor(int slot, int exit) {
      Part p = now;
      long i = p.values[slot];
      long bound = p.values[slot + 1];
      if (p.values[slot + 2] > 0 ? i <= bound : i >= bound) {
        p.push(WHOLE, i);
      } else {
        jump(exit);
      }
    }

    private void nextFor(int slot, int again) {
      Part p = now;
      long i = p.values[slot];
      long by = p.values[slot + 2];
      long next = i + by;
      if (by > 0 ? next > i : next < i) {
        p.values[slot] = next;
        jump(again);
      }
    }

    /** Operators. */
    private void operate(int op, int line) {
      Part p = now;
      switch (op) {
        case OP_NEG:
        case OP_BNOT:
          p.pushCopy(p.top - 1);
          calculate(op, line);
          break;
        case OP_CONCAT:
          concatenate(line);
          break;
        case OP_LENGTH:
          measure(line);
          break;
        case OP_EQUAL:
          equate(line);
          break;
        case OP_LESS:
        case OP_LESS_EQUAL:
          compare(op, line);
          break;
        case OP_MORE:
        case OP_MORE_EQUAL:
          // a > b is b < a
          p.pushCopy(p.top - 2);
          p.give(p.top - 3, p.top - 2, ALL);
          compare(op == OP_MORE ? OP_LESS : OP_LESS_EQUAL, line);
          break;
        default:
          calculate(op, line);
          break;
      }
    }

    /** Calls the operator's event of the two values from a place on: false if there is none. */
    private boolean callEvent(int to, int op, int line) {
      Part p = now;
      int h = event(p.kinds[to], p.values[to], op + OPERATOR_TO_EVENT);
      if (h == 0) {
        h = event(p.kinds[to + 1], p.values[to + 1], op + OPERATOR_TO_EVENT);
      }
      if (h == 0) {
        return false;
      }
      p.insert(to, tables.valueKinds[h], tables.values[h]);
      request(to, 1, line);
      return true;
    }

    private void calculate(int op, int line) {
      Part p = now;
      int to = p.top - 2;
      boolean leftWhole = p.kinds[to] == WHOLE;
      if (leftWhole && p.kinds[to + 1] == WHOLE) {
        long right = p.values[to + 1];
        if (right == 0 && (op == OP_IDIV || op == OP_MOD)) {
          fail(line, "division by zero");
          return;
        }
        p.values[to] = wholeOf(op, p.values[to], right);
        p.top--;
      } else if (!callEvent(to, op, line)) {
        failWithType(line, "arithmetic on ", leftWhole ? p.kinds[to + 1] : p.kinds[to]);
      }
    }

    private static long wholeOf(int op, long left, long right) {
      switch (op) {
        case OP_ADD:
          return left + right;
        case OP_SUB:
          return left - right;
        case OP_MUL:
          return left * right;
        case OP_IDIV:
          return right == 0 ? 0 : Math.floorDiv(left, right);
        case OP_MOD:
          return right == 0 ? 0 : Math.floorMod(left, right);
        case OP_BAND:
          return left & right;
        case OP_BOR:
          return left | right;
        case OP_BXOR:
          return left ^ right;
        case OP_SHL:
          return shift(left, right);
        case OP_SHR:
          return shift(left, -right);
        case OP_NEG:
          return -left;
        default:
          return ~left;
      }
    }

    private static long shift(long whole, long left) {
      if (left <= -64 || left >= 64) {
        return 0;
      }
      return left >= 0 ? whole << left : whole >>> -left;
    }

    private static boolean isText(int kind) {
      return kind == STRING || kind == WHOLE;
    }

    private void concatenate(int line) {
      Part p = now;
      int to = p.top - 2;
      if (isText(p.kinds[to]) && isText(p.kinds[to + 1])) {
        joinRow(p, to, line);
      } else if (!callEvent(to, OP_CONCAT, line)) {
        failWithType(line, "concatenation of ",
            isText(p.kinds[to]) ? p.kinds[to + 1] : p.kinds[to]);
      }
    }

    private void joinRow(Part p, int to, int line) {
      strings.begin();
      for (int i = to; i < to + 2; i++) {
        if (p.kinds[i] == WHOLE) {
          strings.putWhole(p.values[i]);
        } else {
          strings.putString((int) p.values[i]);
        }
      }
      if (strings.rowLength() > Strings.LENGTH_LIMIT) {
        fail(line, "too long");
        return;
      }
      int s = strings.make();
      if (s == NONE) {
        status = NO_ROOM;
        return;
      }
      p.top--;
      p.set(to, STRING, s);
    }

    private void measure(int line) {
      Part p = now;
      int to = p.top - 1;
      int kind = p.kinds[to];
      long value = p.values[to];
      int h = event(kind, value, OP_LENGTH + OPERATOR_TO_EVENT);
      if (kind == STRING) {
        p.set(to, WHOLE, strings.lengthOf((int) value));
      } else if (h != 0) {
        p.insert(to, tables.valueKinds[h], tables.values[h]);
        request(to, 1, line);
      } else if (kind == TABLE) {
        p.set(to, WHOLE, tables.length[(int) value]);
      } else {
        failWithType(line, "length of ", kind);
      }
    }

    private void equate(int line) {
      Part p = now;
      int to = p.top - 2;
      boolean kinds = p.kinds[to] == p.kinds[to + 1];
      boolean same = kinds && p.values[to] == p.values[to + 1];
      if (!same && kinds && p.kinds[to] == TABLE && callEvent(to, OP_EQUAL, line)) {
        return;
      }
      p.top--;
      p.set(to, TRUTH, same ? 1 : 0);
    }

    private void compare(int op, int line) {
      Part p = now;
      int to = p.top - 2;
      int left = p.kinds[to];
      int right = p.kinds[to + 1];
      if (left == right && isText(left)) {
        int d = left == WHOLE
            ? Long.compare(p.values[to], p.values[to + 1])
            : strings.compare((int) p.values[to], (int) p.values[to + 1]);
        p.top--;
        p.set(to, TRUTH, d < 0 || d == 0 && op == OP_LESS_EQUAL ? 1 : 0);
      } else if (!callEvent(to, op, line)) {
        failWithType(line, "comparison of ", left);
        strings.putWords(" with ");
        strings.putWords(Library.typeName(right));
      }
    }
  }
}
