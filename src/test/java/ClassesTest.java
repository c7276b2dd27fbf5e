/** Promises 2 (kind), 9 (is) and 16 (size) of classes. */
public final class ClassesTest extends DeskCheck {
  private static final int[] PARENTS = {-1, 0, 0, 2, 3, 3, 3, 3, 3, 1};

  public static void main(String[] args) {
    firstTree();
    furtherClasses();
    refusedParents();
    noClasses();
    finish();
  }

  private static void firstTree() {
    PropagationDesk desk = new PropagationDesk();
    for (int t = 0; t < 10; t++) {
      for (int c = 0; c < 10; c++) {
        boolean found = false;
        for (int at = t; at != -1; at = PARENTS[at]) {
          found = found || at == c;
        }
        due("is(" + t + ", " + c + ")", desk.is(t, c), found);
      }
    }
  }

  private static void furtherClasses() {
    PropagationDesk desk = new PropagationDesk();
    due("kind under LOCKED", desk.kind(LOCKED), 10);
    for (int c = 11; c <= 15; c++) {
      due("size(0) before " + c, desk.size(0), c);
      due("kind(" + (c - 1) + ")", desk.kind(c - 1), c);
    }
    due("size(0) of a full tree", desk.size(0), 16);
    due("a seventeenth class", desk.kind(0), -1);
    due("size(0) after the refusal", desk.size(0), 16);
    due("is(16, 0)", desk.is(16, 0), false);
    for (int c = 10; c <= 15; c++) {
      due("is(15, " + c + ")", desk.is(15, c), true);
      due("is(" + c + ", 15)", desk.is(c, 15), c == 15);
      due("is(" + c + ", LOCKED)", desk.is(c, LOCKED), true);
      due("is(" + c + ", THROWABLE)", desk.is(c, THROWABLE), true);
      due("is(" + c + ", ERROR)", desk.is(c, ERROR), false);
    }
  }

  private static void refusedParents() {
    PropagationDesk desk = new PropagationDesk();
    due("kind(-1)", desk.kind(-1), -1);
    due("kind(10)", desk.kind(10), -1);
    due("kind(least)", desk.kind(Integer.MIN_VALUE), -1);
    due("kind(most)", desk.kind(Integer.MAX_VALUE), -1);
    due("size(0)", desk.size(0), 10);
    due("kind(9)", desk.kind(9), 10);
    due("is(10, ERROR)", desk.is(10, ERROR), true);
    due("kind(0)", desk.kind(0), 11);
    due("is(11, 10)", desk.is(11, 10), false);
  }

  private static void noClasses() {
    PropagationDesk desk = new PropagationDesk();
    due("is(-1, -1)", desk.is(-1, -1), false);
    due("is(0, -1)", desk.is(0, -1), false);
    due("is(-1, 0)", desk.is(-1, 0), false);
    due("is(10, 10)", desk.is(10, 10), false);
    due("is(3, 10)", desk.is(3, 10), false);
    due("is(most, 0)", desk.is(Integer.MAX_VALUE, 0), false);
    due("is(0, least)", desk.is(0, Integer.MIN_VALUE), false);
    due("size(-1)", desk.size(-1), -1);
    due("size(2)", desk.size(2), -1);
  }
}
