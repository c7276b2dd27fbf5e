import java.util.Arrays;
import java.util.Random;
import java.util.function.ToLongFunction;

/**
 * All promises: runs of calls from fixed seeds, answered by the class and by DeskModel. An object gets no
 * more than the 512 calls for which something is promised: some work, and looks with what is left.
 */
public final class ModelTest extends DeskCheck {
  private static final int RUNS = 12000;
  private static final int MOST_CALLS = 512;

  private final Random random;
  private final PropagationDesk desk = new PropagationDesk();
  private final DeskModel model = new DeskModel();
  private final long seed;
  private int used;

  private ModelTest(long seed) {
    random = new Random(seed);
    this.seed = seed;
  }

  public static void main(String[] args) {
    for (int seed = 0; seed < RUNS; seed++) {
      new ModelTest(seed).run();
    }
    finish();
  }

  private void run() {
    int work = 100 + random.nextInt(MOST_CALLS - 100);
    while (used < work) {
      callSomething(random.nextInt(100));
    }
    while (used < MOST_CALLS) {
      lookSomewhere(random.nextInt(8));
    }
  }

  private void ask(String name, ToLongFunction<PropagationDesk> got, ToLongFunction<DeskModel> want, int... with) {
    if (used == MOST_CALLS) {
      return;
    }
    used++;
    long answer = got.applyAsLong(desk);
    long right = want.applyAsLong(model);
    // The text is made only for a report: there are millions of answers.
    due(answer == right ? name : report(name, with), answer, right);
  }

  private String report(String name, int... with) {
    return "seed " + seed + ", call " + used + ": " + name + Arrays.toString(with);
  }

  private void callSomething(int choice) {
    if (choice < 4) {
      int parent = around(model.size(0));
      ask("kind", d -> d.kind(parent), d -> d.kind(parent), parent);
    } else if (choice < 12) {
      int mode = around(7);
      ask("method", d -> d.method(mode), d -> d.method(mode), mode);
    } else if (choice < 18) {
      giveRule();
    } else if (choice < 66) {
      giveStep();
    } else if (choice < 84) {
      int m = random.nextInt(4) == 0 ? around(model.size(1)) : model.size(1) - 1 - random.nextInt(2);
      ask("invoke", d -> d.invoke(m), d -> d.invoke(m), m);
      lookAtTheLatest();
    } else if (choice < 90) {
      int k = around(4);
      int v = number();
      ask("set", d -> d.set(k, v) ? 1 : 0, d -> d.set(k, v) ? 1 : 0, k, v);
    } else {
      lookSomewhere(random.nextInt(8));
    }
  }

  private void giveRule() {
    int m = around(model.size(1));
    int c = around(model.size(0));
    boolean back = random.nextBoolean();
    ask("rule", d -> d.rule(m, c, back) ? 1 : 0, d -> d.rule(m, c, back) ? 1 : 0, m, c, back ? 1 : 0);
  }

  private void giveStep() {
    int m = around(model.size(1));
    int op = random.nextInt(3) == 0 ? CALL : around(7);
    int a = op <= ADD ? around(4) : op == CALL ? around(m) : op == RAISE ? around(model.size(0)) : around(10);
    int b = op == CALL ? around(model.size(0)) : op == HOOK ? around(2) : number();
    ask("step", d -> d.step(m, op, a, b), d -> d.step(m, op, a, b), m, op, a, b);
  }

  private void lookAtTheLatest() {
    ask("events", PropagationDesk::events, DeskModel::events);
    ask("calls", PropagationDesk::calls, DeskModel::calls);
    for (int i = 0; i < 6; i++) {
      lookSomewhere(random.nextInt(4));
    }
  }

  private void lookSomewhere(int choice) {
    int i = around(model.events());
    int which = around(4);
    int t = around(model.size(0));
    int c = around(model.size(0));
    int m = around(model.size(1));
    switch (choice) {
      case 0 -> ask("event", d -> d.event(i), d -> d.event(i), i);
      case 1 -> ask("amount", d -> d.amount(i), d -> d.amount(i), i);
      case 2 -> ask("value", d -> d.value(which), d -> d.value(which), which);
      case 3 -> ask("count", d -> d.count(which), d -> d.count(which), which);
      case 4 -> ask("is", d -> d.is(t, c) ? 1 : 0, d -> d.is(t, c) ? 1 : 0, t, c);
      case 5 -> ask("rolls", d -> d.rolls(m, t) ? 1 : 0, d -> d.rolls(m, t) ? 1 : 0, m, t);
      case 6 -> ask("size", d -> d.size(which), d -> d.size(which), which);
      default -> ask("events", PropagationDesk::events, DeskModel::events);
    }
  }

  /** Mostly one of 0 .. n - 1, now and then one beside them. */
  private int around(int n) {
    int choice = random.nextInt(40);
    if (choice == 0 || n <= 0) {
      return -1;
    }
    if (choice == 1) {
      return n;
    }
    return choice == 2 ? random.nextInt() : random.nextInt(n);
  }

  private int number() {
    return random.nextInt(4) == 0 ? random.nextInt() : random.nextInt(20) - 5;
  }
}
