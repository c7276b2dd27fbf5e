import java.util.ArrayDeque;
import java.util.ArrayList;
import java.util.Deque;
import java.util.HashMap;
import java.util.HashSet;
import java.util.List;
import java.util.Map;
import java.util.Set;

/**
 * The document told a second time, by other means (Java's own throwables, maps, one current
 * transaction that is put back), for comparing with the class on many runs.
 */
final class DeskModel {
  private static final class Thrown extends Exception {
    private static final long serialVersionUID = 1L;
    final int kind;

    Thrown(int kind) {
      this.kind = kind;
    }
  }

  private static final class Tx {
    Map<Integer, Integer> own = new HashMap<>();
    final Set<Integer> read = new HashSet<>();
    final Set<Integer> written = new HashSet<>();
    final List<int[]> hooks = new ArrayList<>();
    boolean spoiled;
  }

  private static final class Described {
    int number;
    int mode;
    final List<int[]> rules = new ArrayList<>();
    final List<int[]> steps = new ArrayList<>();
  }

  private final List<Integer> parents = new ArrayList<>(List.of(-1, 0, 0, 2, 3, 3, 3, 3, 3, 1));
  private final List<Described> methods = new ArrayList<>();
  private final int[] store = new int[4];
  private final int[] counts = new int[4];
  private List<int[]> log = new ArrayList<>();
  private int called;
  private Tx current;
  private Deque<Tx> suspended = new ArrayDeque<>();
  private boolean only;

  int kind(int parent) {
    if (parent < 0 || parent >= parents.size() || parents.size() == 16) {
      return -1;
    }
    parents.add(parent);
    return parents.size() - 1;
  }

  int method(int mode) {
    if (mode < 0 || mode > 6 || methods.size() == 10) {
      return -1;
    }
    Described made = new Described();
    made.number = methods.size();
    made.mode = mode;
    methods.add(made);
    return made.number;
  }

  boolean rule(int m, int c, boolean back) {
    if (!isMethod(m) || !isKind(c) || methods.get(m).rules.size() == 3) {
      return false;
    }
    return methods.get(m).rules.add(new int[] {c, back ? 1 : 0});
  }

  int step(int m, int op, int a, int b) {
    if (!isMethod(m) || methods.get(m).steps.size() == 8) {
      return -1;
    }
    boolean good = op >= 0 && op <= 6;
    good = good && (op > 2 || a >= 0 && a <= 3);
    good = good && (op != 3 || a >= 0 && a < m && (b == -1 || isKind(b)));
    good = good && (op != 4 || isKind(a));
    good = good && (op != 6 || a >= 0 && a <= 9 && (b | 1) == 1);
    if (!good) {
      return -1;
    }
    methods.get(m).steps.add(new int[] {op, a, b});
    return methods.get(m).steps.size();
  }

  int invoke(int m) {
    if (!isMethod(m)) {
      return -1;
    }
    log = new ArrayList<>();
    called = 0;
    current = null;
    suspended = new ArrayDeque<>();
    try {
      call(methods.get(m));
      return 0;
    } catch (Thrown thrown) {
      return thrown.kind + 1;
    }
  }

  boolean set(int k, int v) {
    if (k < 0 || k > 3) {
      return false;
    }
    store[k] = v;
    return true;
  }

  int value(int k) {
    return k < 0 || k > 3 ? 0 : store[k];
  }

  boolean is(int t, int c) {
    return isKind(t) && isKind(c) && (t == c || is(parents.get(t), c));
  }

  boolean rolls(int m, int t) {
    return isMethod(m) && isKind(t) && rollsBackFor(methods.get(m), t);
  }

  int events() {
    return log.size();
  }

  int event(int i) {
    return i < 0 || i >= 128 || i >= log.size() ? -1 : log.get(i)[0];
  }

  int amount(int i) {
    return i < 0 || i >= 128 || i >= log.size() ? 0 : log.get(i)[1];
  }

  int calls() {
    return called;
  }

  int count(int which) {
    return which < 0 || which > 3 ? -1 : counts[which];
  }

  int size(int which) {
    return which == 0 ? parents.size() : which == 1 ? methods.size() : -1;
  }

  private boolean isMethod(int m) {
    return m >= 0 && m < methods.size();
  }

  private boolean isKind(int c) {
    return c >= 0 && c < parents.size();
  }

  // Walks up from t: the first class that a rule names is the nearest, its first rule decides.
  private boolean rollsBackFor(Described method, int t) {
    for (int at = t; at != -1; at = parents.get(at)) {
      for (int[] rule : method.rules) {
        if (rule[0] == at) {
          return rule[1] == 1;
        }
      }
    }
    return is(t, 3) || is(t, 1);
  }

  private void log(int n, int kind, int amount) {
    log.add(new int[] {16 * n + kind, amount});
  }

  private void call(Described method) throws Thrown {
    if (called == 60) {
      throw new Thrown(9);
    }
    called++;
    Tx before = current;
    boolean present = before != null;
    if (present && method.mode == 6) {
      throw new Thrown(5);
    }
    if (!present && method.mode == 5) {
      throw new Thrown(4);
    }
    boolean suspends = present && (method.mode == 1 || method.mode == 4);
    boolean begins = method.mode == 1 || !present && (method.mode == 0 || method.mode == 2);
    boolean marks = present && method.mode == 2;
    if (suspends) {
      suspended.push(before);
      current = null;
    }
    if (begins) {
      current = new Tx();
      counts[0]++;
    }
    Map<Integer, Integer> markedOwn = marks ? new HashMap<>(before.own) : null;
    boolean markedSpoiled = marks && before.spoiled;
    boolean outerOnly = only;
    only = false;
    Thrown thrown = null;
    try {
      for (int[] step : method.steps) {
        perform(step);
      }
    } catch (Thrown caught) {
      thrown = caught;
    }
    boolean quietlyOrBack = thrown != null && rollsBackFor(method, thrown.kind) || only;
    only = outerOnly;
    try {
      if (begins) {
        endBegun(quietlyOrBack);
      } else if (marks) {
        endMarked(quietlyOrBack, markedOwn, markedSpoiled);
      } else if (current != null && quietlyOrBack) {
        current.spoiled = true;
      }
    } catch (Thrown instead) {
      thrown = instead;
    }
    if (suspends) {
      current = suspended.pop();
    } else if (begins) {
      current = null;
    }
    if (thrown != null) {
      throw thrown;
    }
  }

  private void endMarked(boolean back, Map<Integer, Integer> own, boolean spoiled) throws Thrown {
    if (back || current.spoiled && !spoiled) {
      current.own = own;
      current.spoiled = spoiled;
      counts[3]++;
      if (!back) {
        throw new Thrown(6);
      }
    }
  }

  private void endBegun(boolean back) throws Thrown {
    if (back) {
      rollBack();
    } else if (current.spoiled) {
      rollBack();
      throw new Thrown(6);
    } else {
      commit();
    }
  }

  private void commit() throws Thrown {
    for (int[] hook : current.hooks) {
      log(hook[0], 3, 0);
      if (hook[1] == 1) {
        rollBack();
        throw new Thrown(8);
      }
    }
    tell(4);
    current.own.forEach((k, v) -> store[k] = v);
    log(0, 9, 0);
    counts[1]++;
    tell(5);
    tell(7);
  }

  private void rollBack() {
    tell(4);
    current.own.clear();
    log(0, 10, 0);
    counts[2]++;
    tell(6);
  }

  private void tell(int kind) {
    for (int[] hook : current.hooks) {
      log(hook[0], kind, 0);
    }
  }

  private void perform(int[] step) throws Thrown {
    int a = step[1];
    int b = step[2];
    switch (step[0]) {
      case 0 -> {
        touch(a, false);
        log(a, 1, got(a));
        if (current != null) {
          current.read.add(a);
        }
      }
      case 1 -> {
        touch(a, true);
        put(a, b);
      }
      case 2 -> {
        touch(a, true);
        put(a, got(a) + b);
        if (current != null) {
          current.read.add(a);
        }
      }
      case 3 -> callCatching(a, b);
      case 4 -> throw new Thrown(a);
      case 5 -> only = true;
      default -> {
        if (current != null && current.hooks.size() < 8) {
          current.hooks.add(new int[] {a, b});
        }
      }
    }
  }

  private void callCatching(int a, int b) throws Thrown {
    try {
      call(methods.get(a));
    } catch (Thrown thrown) {
      if (b == -1 || !is(thrown.kind, b)) {
        throw thrown;
      }
      log(thrown.kind, 8, 0);
    }
  }

  private void touch(int k, boolean toWrite) throws Thrown {
    for (Tx other : suspended) {
      if (other.written.contains(k) || toWrite && other.read.contains(k)) {
        throw new Thrown(7);
      }
    }
  }

  private int got(int k) {
    return current != null && current.own.containsKey(k) ? current.own.get(k) : store[k];
  }

  private void put(int k, int v) {
    if (current == null) {
      store[k] = v;
    } else {
      current.written.add(k);
      current.own.put(k, v);
    }
    log(k, 2, v);
  }
}
