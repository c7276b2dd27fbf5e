import java.util.Random;

/** All promises: runs of up to 512 calls from fixed seeds, answered by the class and by DeskModel. */
public final class ModelTest extends DeskCheck {
  private static final int RUNS = 3000;
  private static final int CALLS = 512;

  private final Random random;
  private final PropagationDesk desk = new PropagationDesk();
  private final DeskModel model = new DeskModel();
  private final String run;

  private ModelTest(long seed) {
    random = new Random(seed);
    run = "seed " + seed + ": ";
  }

  public static void main(String[] args) {
    for (int seed = 0; seed < RUNS; seed++) {
      new ModelTest(seed).run();
    }
    finish();
  }

  private void run() {
    for (int i = 0; i < CALLS; i++) {
      callSomething(random.nextInt(100));
    }
    everything();
  }

  private void callSomething(int choice) {
    if (choice < 4) {
      int parent = around(model.size(0));
      due(run + "kind(" + parent + ")", desk.kind(parent), model.kind(parent));
    } else if (choice < 12) {
      int mode = around(7);
      due(run + "method(" + mode + ")", desk.method(mode), model.method(mode));
    } else if (choice < 18) {
      rule();
    } else if (choice < 62) {
      step();
    } else if (choice < 80) {
      int m = random.nextInt(4) == 0 ? around(model.size(1)) : model.size(1) - 1 - random.nextInt(2);
      due(run + "invoke(" + m + ")", desk.invoke(m), model.invoke(m));
      latest();
    } else if (choice < 84) {
      int k = around(4);
      int v = number();
      due(run + "set(" + k + ", " + v + ")", desk.set(k, v), model.set(k, v));
    } else {
      look();
    }
  }

  private void rule() {
    int m = around(model.size(1));
    int c = around(model.size(0));
    boolean back = random.nextBoolean();
    due(run + "rule(" + m + ", " + c + ", " + back + ")", desk.rule(m, c, back), model.rule(m, c, back));
  }

  private void step() {
    int m = around(model.size(1));
    int op = random.nextInt(3) == 0 ? CALL : around(7);
    int a = op <= ADD ? around(4) : op == CALL ? around(m) : op == RAISE ? around(model.size(0)) : around(10);
    int b = op == CALL ? around(model.size(0)) : op == HOOK ? around(2) : number();
    due(run + "step(" + m + ", " + op + ", " + a + ", " + b + ")", desk.step(m, op, a, b), model.step(m, op, a, b));
  }

  private void look() {
    int t = around(model.size(0));
    int c = around(model.size(0));
    int m = around(model.size(1));
    int i = around(model.events());
    due(run + "is(" + t + ", " + c + ")", desk.is(t, c), model.is(t, c));
    due(run + "rolls(" + m + ", " + t + ")", desk.rolls(m, t), model.rolls(m, t));
    due(run + "event(" + i + ")", desk.event(i), model.event(i));
    due(run + "amount(" + i + ")", desk.amount(i), model.amount(i));
    due(run + "value(" + c + ")", desk.value(c), model.value(c));
  }

  private void latest() {
    due(run + "events()", desk.events(), model.events());
    due(run + "calls()", desk.calls(), model.calls());
    for (int i = -1; i <= model.events(); i++) {
      due(run + "event(" + i + ")", desk.event(i), model.event(i));
      due(run + "amount(" + i + ")", desk.amount(i), model.amount(i));
    }
    for (int i = -1; i <= 4; i++) {
      due(run + "value(" + i + ")", desk.value(i), model.value(i));
      due(run + "count(" + i + ")", desk.count(i), model.count(i));
      due(run + "size(" + i + ")", desk.size(i), model.size(i));
    }
  }

  private void everything() {
    latest();
    for (int t = -1; t <= 16; t++) {
      for (int c = -1; c <= 16; c++) {
        due(run + "is(" + t + ", " + c + ")", desk.is(t, c), model.is(t, c));
        due(run + "rolls(" + t + ", " + c + ")", desk.rolls(t, c), model.rolls(t, c));
      }
    }
  }

  /** Mostly one of 0 .. n - 1, now and then one beside them. */
  private int around(int n) {
    int choice = random.nextInt(40);
    if (choice == 0 || n <= 0) {
      return -1;
    }
    if (choice == 1) {
      return n;
    }
    return choice == 2 ? random.nextInt() : random.nextInt(n);
  }

  private int number() {
    return random.nextInt(4) == 0 ? random.nextInt() : random.nextInt(20) - 5;
  }
}
