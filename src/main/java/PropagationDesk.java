import java.util.Arrays;

/**
 * Runs small methods whose calls are wrapped in transactions as their modes say, over a store of
 * four keys.
 */
public final class PropagationDesk {
  private static final int NONE = -1;

  private static final int ERROR = 1;
  private static final int UNCHECKED = 3;
  private static final int MISSING = 4;
  private static final int PRESENT = 5;
  private static final int SPOILED = 6;
  private static final int LOCKED = 7;
  private static final int FAILED = 8;
  private static final int OVERRUN = 9;
  private static final int[] FIRST_PARENTS = {-1, 0, 0, 2, 3, 3, 3, 3, 3, 1};

  private static final int REQUIRED = 0;
  private static final int REQUIRES_NEW = 1;
  private static final int NESTED = 2;
  private static final int NOT_SUPPORTED = 4;
  private static final int MANDATORY = 5;
  private static final int NEVER = 6;

  private static final int GET = 0;
  private static final int PUT = 1;
  private static final int ADD = 2;
  private static final int CALL = 3;
  private static final int RAISE = 4;
  private static final int ONLY = 5;
  private static final int HOOK = 6;

  private static final int PLAIN = 0;
  private static final int JOINED = 1;
  private static final int MARKED = 2;
  private static final int BEGUN = 3;

  private static final int EVENT_GET = 1;
  private static final int EVENT_PUT = 2;
  private static final int EVENT_BEFORE_COMMIT = 3;
  private static final int EVENT_BEFORE_END = 4;
  private static final int EVENT_AFTER_COMMIT = 5;
  private static final int EVENT_AFTER_ROLLBACK = 6;
  private static final int EVENT_LAST = 7;
  private static final int EVENT_CAUGHT = 8;
  private static final int EVENT_COMMITTED = 9;
  private static final int EVENT_ROLLED_BACK = 10;

  private static final int TALLY_BEGUN = 0;
  private static final int TALLY_COMMITTED = 1;
  private static final int TALLY_ROLLED_BACK = 2;
  private static final int TALLY_RESTORED = 3;
  private static final int TALLIES = 4;

  private static final int KEYS = 4;
  private static final int MOST_KINDS = 16;
  private static final int MOST_METHODS = 10;
  private static final int MOST_RULES = 3;
  private static final int MOST_STEPS = 8;
  private static final int MOST_HOOKS = 8;
  private static final int HOOK_NUMBERS = 10;
  private static final int MOST_CALLS = 60;
  private static final int KEPT_EVENTS = 128;

  private final Kinds kinds;
  private final Plan[] plans;
  private int planCount;
  private final int[] committed;
  // A method calls only methods with lower numbers, so no more calls than methods are ever open.
  private final Frame[] frames;
  private final Journal journal;
  private final int[] tallies;
  private int callsMade;

  public PropagationDesk() {
    kinds = new Kinds();
    plans = new Plan[MOST_METHODS];
    committed = new int[KEYS];
    frames = new Frame[MOST_METHODS];
    for (int i = 0; i < MOST_METHODS; i++) {
      plans[i] = new Plan();
      frames[i] = new Frame();
    }
    journal = new Journal();
    tallies = new int[TALLIES];
  }

  public int kind(int parent) {
    return kinds.has(parent) ? kinds.add(parent) : -1;
  }

  public int method(int mode) {
    if (mode < REQUIRED || mode > NEVER || planCount >= MOST_METHODS) {
      return -1;
    }
    plans[planCount].mode = mode;
    planCount++;
    return planCount - 1;
  }

  public boolean rule(int m, int c, boolean back) {
    return hasMethod(m) && kinds.has(c) && plans[m].addRule(c, back);
  }

  public int step(int m, int op, int a, int b) {
    return hasMethod(m) && fits(m, op, a, b) ? plans[m].addStep(op, a, b) : -1;
  }

  public int invoke(int m) {
    if (!hasMethod(m)) {
      return -1;
    }
    journal.clear();
    callsMade = 0;
    return call(m, null, 0) + 1;
  }

  public boolean set(int k, int v) {
    if (!isKey(k)) {
      return false;
    }
    committed[k] = v;
    return true;
  }

  public int value(int k) {
    return isKey(k) ? committed[k] : 0;
  }

  public boolean is(int t, int c) {
    return kinds.under(t, c);
  }

  public boolean rolls(int m, int t) {
    return hasMethod(m) && kinds.has(t) && plans[m].goesBackFor(t, kinds);
  }

  public int events() {
    return journal.total;
  }

  public int event(int i) {
    return journal.keeps(i) ? journal.codes[i] : -1;
  }

  public int amount(int i) {
    return journal.keeps(i) ? journal.amounts[i] : 0;
  }

  public int calls() {
    return callsMade;
  }

  public int count(int which) {
    return which >= 0 && which < TALLIES ? tallies[which] : -1;
  }

  public int size(int which) {
    switch (which) {
      case 0:
        return kinds.made;
      case 1:
        return planCount;
      default:
        return -1;
    }
  }

  private boolean hasMethod(int m) {
    return m >= 0 && m < planCount;
  }

  private static boolean isKey(int k) {
    return k >= 0 && k < KEYS;
  }

  private boolean fits(int m, int op, int a, int b) {
    switch (op) {
      case GET:
      case PUT:
      case ADD:
        return isKey(a);
      case CALL:
        return a >= 0 && a < m && (b == NONE || kinds.has(b));
      case RAISE:
        return kinds.has(a);
      case ONLY:
        return true;
      case HOOK:
        return a >= 0 && a < HOOK_NUMBERS && (b == 0 || b == 1);
      default:
        return false;
    }
  }

  /** What comes out of the call: the class of a throwable, or NONE. */
  private int call(int m, Transaction around, int depth) {
    // m and depth are always in bounds, since steps were checked when given; looked at all the same.
    if (callsMade >= MOST_CALLS || depth >= MOST_METHODS || !hasMethod(m)) {
      return OVERRUN;
    }
    callsMade++;
    Plan plan = plans[m];
    int refusal = enter(frames[depth], plan.mode, around);
    if (refusal != NONE) {
      return refusal;
    }
    int thrown = NONE;
    for (int i = 0; i < plan.stepCount && thrown == NONE; i++) {
      thrown = doStep(plan.ops[i], plan.firsts[i], plan.seconds[i], depth);
    }
    return end(frames[depth], plan, thrown);
  }

  private int enter(Frame frame, int mode, Transaction around) {
    frame.clear();
    return around == null ? enterAlone(frame, mode) : enterWithin(frame, mode, around);
  }

  private int enterAlone(Frame frame, int mode) {
    switch (mode) {
      case REQUIRED:
      case REQUIRES_NEW:
      case NESTED:
        begin(frame);
        return NONE;
      case MANDATORY:
        return MISSING;
      default:
        return NONE;
    }
  }

  private int enterWithin(Frame frame, int mode, Transaction around) {
    switch (mode) {
      case REQUIRES_NEW:
        frame.suspended = around;
        begin(frame);
        return NONE;
      case NESTED:
        frame.mark(around);
        return NONE;
      case NOT_SUPPORTED:
        frame.suspended = around;
        return NONE;
      case NEVER:
        return PRESENT;
      default:
        frame.way = JOINED;
        frame.current = around;
        return NONE;
    }
  }

  private void begin(Frame frame) {
    frame.own.clear();
    frame.way = BEGUN;
    frame.current = frame.own;
    tallies[TALLY_BEGUN]++;
  }

  private int end(Frame frame, Plan plan, int thrown) {
    Transaction current = frame.current;
    if (current == null) {
      return thrown;
    }
    // Back and quietly back end alike: only what came out of the steps tells them apart.
    boolean back = frame.only || thrown != NONE && plan.goesBackFor(thrown, kinds);
    switch (frame.way) {
      case MARKED:
        return endMarked(frame, current, back, thrown);
      case BEGUN:
        return endBegun(current, back, thrown);
      default:
        current.spoiled = current.spoiled || back;
        return thrown;
    }
  }

  private int endMarked(Frame frame, Transaction current, boolean back, int thrown) {
    boolean newlySpoiled = current.spoiled && !frame.markedSpoiled;
    if (!back && !newlySpoiled) {
      return thrown;
    }
    frame.restore(current);
    tallies[TALLY_RESTORED]++;
    return back ? thrown : SPOILED;
  }

  private int endBegun(Transaction current, boolean back, int thrown) {
    int refusal = back ? NONE : refusalToCommit(current);
    if (!back && refusal == NONE) {
      commit(current);
      return thrown;
    }
    rollBack(current);
    return back ? thrown : refusal;
  }

  private int refusalToCommit(Transaction current) {
    if (current.spoiled) {
      return SPOILED;
    }
    for (int i = 0; i < current.hookCount; i++) {
      journal.record(EVENT_BEFORE_COMMIT, current.hooks[i], 0);
      if (current.bad[i]) {
        return FAILED;
      }
    }
    return NONE;
  }

  private void commit(Transaction current) {
    tellHooks(current, EVENT_BEFORE_END);
    for (int k = 0; k < KEYS; k++) {
      committed[k] = current.seen(k, committed[k]);
    }
    journal.record(EVENT_COMMITTED, 0, 0);
    tallies[TALLY_COMMITTED]++;
    tellHooks(current, EVENT_AFTER_COMMIT);
    tellHooks(current, EVENT_LAST);
  }

  private void rollBack(Transaction current) {
    tellHooks(current, EVENT_BEFORE_END);
    journal.record(EVENT_ROLLED_BACK, 0, 0);
    tallies[TALLY_ROLLED_BACK]++;
    tellHooks(current, EVENT_AFTER_ROLLBACK);
  }

  private void tellHooks(Transaction current, int kindOfEvent) {
    for (int i = 0; i < current.hookCount; i++) {
      journal.record(kindOfEvent, current.hooks[i], 0);
    }
  }

  /** What comes out of the step: the class of a throwable, or NONE. */
  private int doStep(int op, int a, int b, int depth) {
    Frame frame = frames[depth];
    switch (op) {
      case GET:
        return get(a, depth);
      case PUT:
        return put(a, b, depth);
      case ADD:
        return add(a, b, depth);
      case CALL:
        return callAndCatch(a, b, depth);
      case RAISE:
        return a;
      case ONLY:
        frame.only = true;
        return NONE;
      default:
        if (frame.current != null) {
          frame.current.addHook(a, b == 1);
        }
        return NONE;
    }
  }

  private int get(int k, int depth) {
    if (locked(k, false, depth)) {
      return LOCKED;
    }
    Transaction current = frames[depth].current;
    journal.record(EVENT_GET, k, seen(k, current));
    if (current != null) {
      current.read[k] = true;
    }
    return NONE;
  }

  private int put(int k, int v, int depth) {
    if (locked(k, true, depth)) {
      return LOCKED;
    }
    write(k, v, frames[depth].current);
    return NONE;
  }

  private int add(int k, int v, int depth) {
    if (locked(k, true, depth)) {
      return LOCKED;
    }
    Transaction current = frames[depth].current;
    write(k, seen(k, current) + v, current);
    if (current != null) {
      current.read[k] = true;
    }
    return NONE;
  }

  private int callAndCatch(int m, int caught, int depth) {
    int thrown = call(m, frames[depth].current, depth + 1);
    if (thrown == NONE || caught == NONE || !kinds.under(thrown, caught)) {
      return thrown;
    }
    journal.record(EVENT_CAUGHT, thrown, 0);
    return NONE;
  }

  private boolean locked(int k, boolean toWrite, int depth) {
    for (int d = 0; d <= depth; d++) {
      Transaction other = frames[d].suspended;
      if (other != null && (other.written[k] || toWrite && other.read[k])) {
        return true;
      }
    }
    return false;
  }

  private int seen(int k, Transaction current) {
    return current == null ? committed[k] : current.seen(k, committed[k]);
  }

  private void write(int k, int v, Transaction current) {
    if (current == null) {
      committed[k] = v;
    } else {
      current.write(k, v);
    }
    journal.record(EVENT_PUT, k, v);
  }

  /** The tree of the classes of throwables. */
  private static final class Kinds {
    final int[] parents = Arrays.copyOf(FIRST_PARENTS, MOST_KINDS);
    int made = FIRST_PARENTS.length;

    boolean has(int c) {
      return c >= 0 && c < made;
    }

    int add(int parent) {
      if (made >= MOST_KINDS) {
        return -1;
      }
      parents[made] = parent;
      made++;
      return made - 1;
    }

    /** How far t is from c, or NONE when it is not a c, or when one of them is no class. */
    int distance(int t, int c) {
      int at = t;
      for (int d = 0; d < MOST_KINDS; d++) {
        if (!has(at)) {
          return NONE;
        }
        if (at == c) {
          return d;
        }
        at = parents[at];
      }
      return NONE;
    }

    boolean under(int t, int c) {
      return distance(t, c) != NONE;
    }
  }

  /** A method as it was described: its mode, rules and steps. */
  private static final class Plan {
    int mode;
    final int[] ruleKinds = new int[MOST_RULES];
    final boolean[] ruleBacks = new boolean[MOST_RULES];
    int ruleCount;
    final int[] ops = new int[MOST_STEPS];
    final int[] firsts = new int[MOST_STEPS];
    final int[] seconds = new int[MOST_STEPS];
    int stepCount;

    boolean addRule(int c, boolean back) {
      if (ruleCount >= MOST_RULES) {
        return false;
      }
      ruleKinds[ruleCount] = c;
      ruleBacks[ruleCount] = back;
      ruleCount++;
      return true;
    }

    int addStep(int op, int a, int b) {
      if (stepCount >= MOST_STEPS) {
        return -1;
      }
      ops[stepCount] = op;
      firsts[stepCount] = a;
      seconds[stepCount] = b;
      stepCount++;
      return stepCount;
    }

    boolean goesBackFor(int t, Kinds kinds) {
      boolean back = kinds.under(t, UNCHECKED) || kinds.under(t, ERROR);
      int nearest = MOST_KINDS;
      for (int i = 0; i < ruleCount; i++) {
        int distance = kinds.distance(t, ruleKinds[i]);
        if (distance != NONE && distance < nearest) {
          nearest = distance;
          back = ruleBacks[i];
        }
      }
      return back;
    }
  }

  /** Own values, keys read and written, and hooks; used again for later transactions. */
  private static final class Transaction {
    final int[] values = new int[KEYS];
    final boolean[] owns = new boolean[KEYS];
    final boolean[] read = new boolean[KEYS];
    final boolean[] written = new boolean[KEYS];
    final int[] hooks = new int[MOST_HOOKS];
    final boolean[] bad = new boolean[MOST_HOOKS];
    int hookCount;
    boolean spoiled;

    void clear() {
      for (int k = 0; k < KEYS; k++) {
        owns[k] = false;
        read[k] = false;
        written[k] = false;
      }
      hookCount = 0;
      spoiled = false;
    }

    int seen(int k, int otherwise) {
      return owns[k] ? values[k] : otherwise;
    }

    void write(int k, int v) {
      values[k] = v;
      owns[k] = true;
      written[k] = true;
    }

    void addHook(int number, boolean isBad) {
      if (hookCount >= MOST_HOOKS) {
        return;
      }
      hooks[hookCount] = number;
      bad[hookCount] = isBad;
      hookCount++;
    }
  }

  /** A call that stands open; there is one for each depth, used again and again. */
  private static final class Frame {
    final Transaction own = new Transaction();
    Transaction current;
    Transaction suspended;
    int way;
    boolean only;
    final int[] markedValues = new int[KEYS];
    final boolean[] markedOwns = new boolean[KEYS];
    boolean markedSpoiled;

    void clear() {
      current = null;
      suspended = null;
      way = PLAIN;
      only = false;
    }

    void mark(Transaction transaction) {
      way = MARKED;
      current = transaction;
      markedSpoiled = transaction.spoiled;
      for (int k = 0; k < KEYS; k++) {
        markedValues[k] = transaction.values[k];
        markedOwns[k] = transaction.owns[k];
      }
    }

    // Keys read and written and hooks stay: the document takes back own values and the spoiling.
    void restore(Transaction transaction) {
      transaction.spoiled = markedSpoiled;
      for (int k = 0; k < KEYS; k++) {
        transaction.values[k] = markedValues[k];
        transaction.owns[k] = markedOwns[k];
      }
    }
  }

  /** The events of the latest invocation. */
  private static final class Journal {
    final int[] codes = new int[KEPT_EVENTS];
    final int[] amounts = new int[KEPT_EVENTS];
    int total;

    void clear() {
      total = 0;
    }

    void record(int kindOfEvent, int n, int amount) {
      if (total < KEPT_EVENTS) {
        codes[total] = 16 * n + kindOfEvent;
        amounts[total] = amount;
      }
      total++;
    }

    boolean keeps(int i) {
      return i >= 0 && i < total && i < KEPT_EVENTS;
    }
  }
}
