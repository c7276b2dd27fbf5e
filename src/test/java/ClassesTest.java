/** Promises 2 (kind), 9 (is) and 16 (size) of classes, and the term CLASSES. */
public final class ClassesTest extends DeskCheck {
  private static final int[] PARENTS = {-1, 0, 0, 2, 3, 3, 3, 3, 3, 1};

  public static void main(String[] args) {
    firstTree();
    furtherClasses();
    firstAndLastParent();
    noParent();
    sixteenAreFull();
    greatestDistance();
    siblingsAreNotEachOther();
    isOfNoClass();
    sizeOfNothing();
    finish();
  }

  private static void firstTree() {
    PropagationDesk desk = new PropagationDesk();
    for (int t = 0; t < 10; t++) {
      for (int c = 0; c < 10; c++) {
        boolean found = false;
        for (int at = t; at != -1; at = PARENTS[at]) {
          found = found || at == c;
        }
        due("is(" + t + ", " + c + ")", desk.is(t, c), found);
      }
    }
  }

  private static void furtherClasses() {
    PropagationDesk desk = new PropagationDesk();
    due("kind under LOCKED", desk.kind(LOCKED), 10);
    for (int c = 11; c <= 15; c++) {
      due("size(0) before " + c, desk.size(0), c);
      due("kind(" + (c - 1) + ")", desk.kind(c - 1), c);
    }
    due("size(0) of a full tree", desk.size(0), 16);
    for (int c = 10; c <= 15; c++) {
      due("is(15, " + c + ")", desk.is(15, c), true);
      due("is(" + c + ", 15)", desk.is(c, 15), c == 15);
      due("is(" + c + ", LOCKED)", desk.is(c, LOCKED), true);
      due("is(" + c + ", THROWABLE)", desk.is(c, THROWABLE), true);
      due("is(" + c + ", ERROR)", desk.is(c, ERROR), false);
    }
  }

  private static void firstAndLastParent() {
    for (int n = 10; n < 16; n++) {
      for (int parent : new int[] {0, 1, n - 2, n - 1}) {
        PropagationDesk desk = withClasses(n);
        String name = "kind(" + parent + ") of " + n + " classes";
        due(name, desk.kind(parent), n);
        due(name + ": size(0)", desk.size(0), n + 1);
        due(name + ": it is one of its own class", desk.is(n, n), true);
        due(name + ": it is one of its parent's", desk.is(n, parent), true);
        due(name + ": its parent is not one of it", desk.is(parent, n), false);
      }
    }
  }

  private static void noParent() {
    for (int n = 10; n < 16; n++) {
      for (int parent : new int[] {-1, n, n + 1, LEAST, MOST}) {
        PropagationDesk desk = withClasses(n);
        String name = "kind(" + parent + ") of " + n + " classes";
        due(name, desk.kind(parent), -1);
        due(name + ": size(0)", desk.size(0), n);
        due(name + ": there is no class " + n, desk.is(n, 0), false);
        due(name + ": the next class has the number " + n, desk.kind(0), n);
      }
    }
  }

  private static void sixteenAreFull() {
    for (int parent : new int[] {-1, 0, 9, 10, 14, 15, 16, LEAST, MOST}) {
      PropagationDesk desk = withClasses(16);
      due("class 15 is there", desk.is(15, 0), true);
      String name = "kind(" + parent + ") of 16 classes";
      due(name, desk.kind(parent), -1);
      due(name + ": size(0)", desk.size(0), 16);
      due(name + ": there is no class 16", desk.is(16, 0), false);
      for (int c = 0; c < 15; c++) {
        due(name + ": is(15, " + c + ")", desk.is(15, c), c == 0);
      }
    }
  }

  /** The longest chain there can be: 15 .. 10, MISSING, UNCHECKED, CHECKED, THROWABLE. */
  private static void greatestDistance() {
    PropagationDesk desk = new PropagationDesk();
    int last = MISSING;
    for (int c = 10; c <= 15; c++) {
      last = desk.kind(last);
    }
    int[] chain = {15, 14, 13, 12, 11, 10, MISSING, UNCHECKED, CHECKED, THROWABLE};
    for (int t = 0; t < chain.length; t++) {
      for (int c = 0; c < chain.length; c++) {
        due("is(" + chain[t] + ", " + chain[c] + ")", desk.is(chain[t], chain[c]), t <= c);
      }
    }
    due("is(15, PRESENT)", desk.is(15, PRESENT), false);
    due("is(15, ERROR)", desk.is(15, ERROR), false);
  }

  private static void siblingsAreNotEachOther() {
    PropagationDesk desk = new PropagationDesk();
    int first = desk.kind(OVERRUN);
    int second = desk.kind(OVERRUN);
    due("the first is an ERROR", desk.is(first, ERROR), true);
    due("the second is an ERROR", desk.is(second, ERROR), true);
    due("the first is not the second", desk.is(first, second), false);
    due("the second is not the first", desk.is(second, first), false);
  }

  private static void isOfNoClass() {
    for (int n = 10; n <= 16; n++) {
      PropagationDesk desk = withClasses(n);
      for (int none : new int[] {-1, n, 16, LEAST, MOST}) {
        String name = " of " + n + " classes";
        due("is(" + none + ", itself)" + name, desk.is(none, none), false);
        for (int c : new int[] {0, 9, n - 1}) {
          due("is(" + none + ", " + c + ")" + name, desk.is(none, c), false);
          due("is(" + c + ", " + none + ")" + name, desk.is(c, none), false);
        }
      }
    }
  }

  private static void sizeOfNothing() {
    PropagationDesk desk = new PropagationDesk();
    for (int which : new int[] {-1, 2, LEAST, MOST}) {
      due("size(" + which + ")", desk.size(which), -1);
    }
    due("size(0)", desk.size(0), 10);
    due("size(1)", desk.size(1), 0);
  }
}
