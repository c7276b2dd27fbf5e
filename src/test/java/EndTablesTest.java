import java.util.ArrayList;
import java.util.List;

/**
 * Promise 6 (invoke): (d) of TO CALL as tables, each way of being called against each way of ending.
 * A row has: whether a step ONLY was done, what was raised, and what is due.
 */
public final class EndTablesTest extends DeskCheck {
  private static final int NO = 0;
  private static final int YES = 1;
  private static final int NOTHING = -1;
  private static final int SPOILER = 0;

  // ONLY done, raised; what comes out, what GET gets afterwards, how often it went back to the mark.
  private static final int[][] MARKED_NOT_SPOILED = {
      {NO, NOTHING, NOTHING, 7, 0},
      {NO, CHECKED, CHECKED, 7, 0},
      {NO, UNCHECKED, UNCHECKED, 3, 1},
      {YES, NOTHING, NOTHING, 3, 1},
      {YES, CHECKED, CHECKED, 3, 1},
      {YES, UNCHECKED, UNCHECKED, 3, 1}};
  private static final int[][] MARKED_SPOILED_SINCE = {
      {NO, NOTHING, SPOILED, 3, 1},
      {NO, CHECKED, SPOILED, 3, 1},
      {NO, UNCHECKED, UNCHECKED, 3, 1},
      {YES, NOTHING, NOTHING, 3, 1},
      {YES, CHECKED, CHECKED, 3, 1},
      {YES, UNCHECKED, UNCHECKED, 3, 1}};

  // ONLY done, raised; what comes out, whether the transaction is spoiled by it.
  private static final int[][] JOINED = {
      {NO, NOTHING, NOTHING, NO},
      {NO, CHECKED, CHECKED, NO},
      {NO, UNCHECKED, UNCHECKED, YES},
      {YES, NOTHING, NOTHING, YES},
      {YES, CHECKED, CHECKED, YES},
      {YES, UNCHECKED, UNCHECKED, YES}};

  // ONLY done, raised; what comes out, whether it is committed.
  private static final int[][] BEGUN_NOT_SPOILED = {
      {NO, NOTHING, NOTHING, YES},
      {NO, CHECKED, CHECKED, YES},
      {NO, UNCHECKED, UNCHECKED, NO},
      {YES, NOTHING, NOTHING, NO},
      {YES, CHECKED, CHECKED, NO},
      {YES, UNCHECKED, UNCHECKED, NO}};
  private static final int[][] BEGUN_SPOILED = {
      {NO, NOTHING, SPOILED, NO},
      {NO, CHECKED, SPOILED, NO},
      {NO, UNCHECKED, UNCHECKED, NO},
      {YES, NOTHING, NOTHING, NO},
      {YES, CHECKED, CHECKED, NO},
      {YES, UNCHECKED, UNCHECKED, NO}};

  public static void main(String[] args) {
    markedNotSpoiled();
    markedSpoiledSince();
    markedSpoiledAtTheMark();
    joinedNotSpoiled();
    joinedSpoiled();
    begunFromOutside();
    begunBesideASuspendedOne();
    plainlyFromOutside();
    plainlyBesideASuspendedOne();
    finish();
  }

  /** A method that puts 7 to key 1 and ends as a row says; a call of SPOILER is put in when since. */
  private static int ending(PropagationDesk desk, int mode, boolean since, int[] row) {
    int m = make(desk, mode, PUT, 1, 7);
    if (since) {
      desk.step(m, CALL, SPOILER, -1);
    }
    if (row[0] == YES) {
      desk.step(m, ONLY, 0, 0);
    }
    if (row[1] != NOTHING) {
      desk.step(m, RAISE, row[1], 0);
    }
    return m;
  }

  private static PropagationDesk withSpoiler() {
    PropagationDesk desk = new PropagationDesk();
    make(desk, SUPPORTS, ONLY, 0, 0);
    return desk;
  }

  private static String name(String way, int mode, int[] row) {
    return way + ", mode " + mode + ", ONLY " + row[0] + ", raised " + row[1];
  }

  /** A REQUIRED method that has an own value for key 1, calls the inner one, and gets key 1. */
  private static int around(PropagationDesk desk, int inner, boolean before) {
    int m = make(desk, REQUIRED, PUT, 1, 3);
    if (before) {
      desk.step(m, CALL, SPOILER, -1);
    }
    desk.step(m, CALL, inner, THROWABLE);
    desk.step(m, GET, 1, 0);
    return m;
  }

  private static void dueAround(String name, PropagationDesk desk, int outer, int caught, int got, boolean spoiled) {
    due(name, desk.invoke(outer), spoiled ? out(SPOILED) : DONE);
    List<Integer> codes = new ArrayList<>(List.of(putEvent(1), putEvent(1)));
    if (caught != NOTHING) {
      codes.add(caughtEvent(caught));
    }
    codes.add(gotEvent(1));
    codes.add(spoiled ? ROLLBACK_EVENT : COMMIT_EVENT);
    dueEvents(name, desk, codes.stream().mapToInt(Integer::intValue).toArray());
    due(name + ": what is got", desk.amount(codes.size() - 2), got);
    dueValues(name, desk, 0, spoiled ? 0 : got, 0, 0);
  }

  private static void dueMarked(String way, boolean before, boolean since, int[] row) {
    PropagationDesk desk = withSpoiler();
    int inner = ending(desk, NESTED, since, row);
    int outer = around(desk, inner, before);
    String name = name(way, NESTED, row);
    dueAround(name, desk, outer, row[2], row[3], before);
    dueCounts(name, desk, 1, before ? 0 : 1, before ? 1 : 0, row[4]);
  }

  private static void markedNotSpoiled() {
    for (int[] row : MARKED_NOT_SPOILED) {
      dueMarked("marked, not spoiled", false, false, row);
    }
  }

  private static void markedSpoiledSince() {
    for (int[] row : MARKED_SPOILED_SINCE) {
      dueMarked("marked, spoiled since", false, true, row);
    }
  }

  /** Spoiled when it was marked: being spoiled once more takes nothing back, and it stays spoiled. */
  private static void markedSpoiledAtTheMark() {
    for (int[] row : MARKED_NOT_SPOILED) {
      dueMarked("marked, spoiled before", true, false, row);
      dueMarked("marked, spoiled before and since", true, true, row);
    }
  }

  private static void dueJoined(String way, int mode, boolean before, boolean since, int[] row) {
    PropagationDesk desk = withSpoiler();
    int inner = ending(desk, mode, since, row);
    int outer = around(desk, inner, before);
    boolean spoiled = before || since || row[3] == YES;
    String name = name(way, mode, row);
    dueAround(name, desk, outer, row[2], 7, spoiled);
    dueCounts(name, desk, 1, spoiled ? 0 : 1, spoiled ? 1 : 0, 0);
  }

  private static void joinedNotSpoiled() {
    for (int mode : new int[] {REQUIRED, SUPPORTS, MANDATORY}) {
      for (int[] row : JOINED) {
        dueJoined("joined, not spoiled", mode, false, false, row);
      }
    }
  }

  private static void joinedSpoiled() {
    for (int mode : new int[] {REQUIRED, SUPPORTS, MANDATORY}) {
      for (int[] row : JOINED) {
        dueJoined("joined, spoiled before", mode, true, false, row);
        dueJoined("joined, spoiled within", mode, false, true, row);
        dueJoined("joined, spoiled before and within", mode, true, true, row);
      }
    }
  }

  private static void dueBegun(String way, int mode, boolean since, int[] row) {
    PropagationDesk desk = withSpoiler();
    int m = ending(desk, mode, since, row);
    boolean kept = row[3] == YES;
    String name = name(way, mode, row);
    due(name, desk.invoke(m), out(row[2]));
    dueEvents(name, desk, putEvent(1), kept ? COMMIT_EVENT : ROLLBACK_EVENT);
    dueValues(name, desk, 0, kept ? 7 : 0, 0, 0);
    dueCounts(name, desk, 1, kept ? 1 : 0, kept ? 0 : 1, 0);
  }

  private static void begunFromOutside() {
    for (int mode : new int[] {REQUIRED, REQUIRES_NEW, NESTED}) {
      for (int[] row : BEGUN_NOT_SPOILED) {
        dueBegun("begun", mode, false, row);
      }
      for (int[] row : BEGUN_SPOILED) {
        dueBegun("begun, spoiled", mode, true, row);
      }
    }
  }

  /** An inner call with a transaction of its own, or with none: how it ends is nothing to the outer one. */
  private static PropagationDesk beside(String name, int mode, boolean before, boolean since, int[] row) {
    PropagationDesk desk = withSpoiler();
    int inner = ending(desk, mode, since, row);
    int outer = desk.method(REQUIRED);
    desk.step(outer, PUT, 2, 5);
    if (before) {
      desk.step(outer, CALL, SPOILER, -1);
    }
    desk.step(outer, CALL, inner, row[2] == NOTHING ? -1 : row[2]);
    due(name, desk.invoke(outer), before ? out(SPOILED) : DONE);
    due(name + ": value(2)", desk.value(2), before ? 0 : 5);
    return desk;
  }

  private static void begunBesideASuspendedOne() {
    for (int i = 0; i < 24; i++) {
      boolean before = i % 2 == 1;
      boolean since = i % 4 >= 2;
      int[] row = (since ? BEGUN_SPOILED : BEGUN_NOT_SPOILED)[i / 4];
      int kept = row[3];
      String name = name("begun beside one, spoiled before " + before + ", since " + since, REQUIRES_NEW, row);
      PropagationDesk desk = beside(name, REQUIRES_NEW, before, since, row);
      due(name + ": value(1)", desk.value(1), kept == YES ? 7 : 0);
      due(name + ": it ends first", desk.event(2), kept == YES ? COMMIT_EVENT : ROLLBACK_EVENT);
      dueCounts(name, desk, 2, kept + (before ? 0 : 1), 1 - kept + (before ? 1 : 0), 0);
    }
  }

  private static void plainlyFromOutside() {
    for (int mode : new int[] {SUPPORTS, NOT_SUPPORTED, NEVER}) {
      for (int[] row : JOINED) {
        for (boolean since : new boolean[] {false, true}) {
          PropagationDesk desk = withSpoiler();
          int m = ending(desk, mode, since, row);
          String name = name("plainly", mode, row);
          due(name, desk.invoke(m), out(row[1]));
          dueEvents(name, desk, putEvent(1));
          dueValues(name, desk, 0, 7, 0, 0);
          dueCounts(name, desk, 0, 0, 0, 0);
        }
      }
    }
  }

  private static void plainlyBesideASuspendedOne() {
    for (int[] row : JOINED) {
      for (int i = 0; i < 4; i++) {
        boolean before = i % 2 == 1;
        String name = name("plainly beside one, spoiled before " + before, NOT_SUPPORTED, row);
        PropagationDesk desk = beside(name, NOT_SUPPORTED, before, i >= 2, row);
        due(name + ": value(1)", desk.value(1), 7);
        dueCounts(name, desk, 1, before ? 0 : 1, before ? 1 : 0, 0);
      }
    }
  }
}
