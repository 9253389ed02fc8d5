import java.util.ArrayList;
import java.util.List;
import java.util.Random;

/**
 * Each clause of a promise that names a boundary case, with a test of its own.
 *
 * Where a clause says that nothing happens, two objects are made alike, one of
 * them with the refused call on top: all later calls, of many rows of calls,
 * must be answered alike by both.
 */
public final class ClauseTest {
    private static final int NONE = VersionRows.NONE;
    private static final long LEAST = Long.MIN_VALUE;
    private static final long GREATEST = Long.MAX_VALUE;
    private static final long[] MOMENTS =
        {LEAST, LEAST + 1, -5, 0, 1, 50, 99, 100, 129, 130, 150, 151, 999, 1000, 5000, GREATEST};

    private static String clause = "";
    private static int clauses = 0;
    private static int wrong = 0;

    /** Calls on an object, whose answers it notes. */
    private interface Calls {
        void on(Rows x);
    }

    /** A call on an object. */
    private interface Call {
        int on(Rows x);
    }

    /** An object that notes its answers, and counts its calls: over 512 of them, all answers are free. */
    private static final class Rows {
        private final VersionRows x = new VersionRows();
        private final List<Integer> answers = new ArrayList<>();

        private int noted(int answer) {
            answers.add(answer);
            if (answers.size() > 512) {
                throw new IllegalStateException("the test makes over 512 calls");
            }
            return answer;
        }

        int record(int kind) {
            return noted(x.record(kind));
        }

        int act(int record, int field, long v, long valid, long known) {
            return noted(x.act(record, field, v, valid, known));
        }

        int at(int record, int field, long known) {
            return noted(x.at(record, field, known));
        }

        int stale(int record, long known, int field) {
            return noted(x.stale(record, known, field));
        }

        int undo(int act) {
            return noted(x.undo(act));
        }

        int lean(int act, int other) {
            return noted(x.lean(act, other));
        }

        int lock(int record, int who, long until) {
            return noted(x.lock(record, who, until));
        }

        int batch(int from, int to) {
            return noted(x.batch(from, to));
        }

        int drop(int batch) {
            return noted(x.drop(batch));
        }

        int conflict(int i, int what) {
            return noted(x.conflict(i, what));
        }

        int history(int record, int field, int i) {
            return noted(x.history(record, field, i));
        }
    }

    public static void main(String[] args) {
        newObject();
        record();
        act();
        at();
        stale();
        undo();
        lean();
        lock();
        batch();
        drop();
        conflict();
        history();
        test("any run: calls that are refused or only ask leave all as it is", ClauseTest::anyRun);
        System.out.println("ClauseTest: " + clauses + " clauses, " + wrong + " wrong answers");
        if (wrong != 0) {
            System.exit(1);
        }
    }

    private static void test(String words, Runnable body) {
        clause = words;
        clauses++;
        try {
            body.run();
        } catch (RuntimeException e) {
            wrong++;
            System.out.println("[" + clause + "] threw " + e);
        }
    }

    private static void due(String what, long got, long want) {
        if (got != want) {
            wrong++;
            System.out.println("[" + clause + "] " + what + ": answered " + got + ", due is " + want);
        }
    }

    // ---- What is there before a clause's call ----

    private static Rows made(Calls before) {
        Rows x = new Rows();
        before.on(x);
        return x;
    }

    private static void nothing(Rows x) {
        // A new object.
    }

    /** Something of all: four records, 12 acts (the last one undone), leans, two batches, two locks; NOW is 150. */
    private static void some(Rows x) {
        for (int kind = 0; kind <= 3; kind++) {
            x.record(kind);
        }
        x.act(1, 1, 5, 10, 100);
        x.act(1, 1, 6, 9, 100);
        x.act(1, 2, 7, 1, 90);
        x.act(2, 0, 0, 1, 50);
        x.act(2, 3, 8, 1, 110);
        x.act(3, 0, 1, 1, 120);
        x.act(3, 4, 9, 1, 130);
        x.act(3, 4, 3, 1, 130);
        x.act(1, 1, 5, 10, 140);
        x.act(3, 5, 2147483647L, LEAST, LEAST);
        x.act(1, 7, 0, GREATEST, -5);
        x.act(1, 1, 4, 1, 150);
        x.undo(12);
        x.lean(3, 1);
        x.lean(5, 4);
        x.lean(8, 7);
        x.lean(9, 3);
        x.lean(9, 6);
        x.batch(4, 6);
        x.batch(7, 8);
        x.lock(2, 7, 1000);
        x.lock(4, 8, 5000);
    }

    private static void twentyRecords(Rows x) {
        for (int i = 1; i <= 20; i++) {
            x.record(i % 4);
        }
        x.act(20, 1, 5, 1, 10);
        x.lock(19, 3, 100);
    }

    /** Record 1, free, with 200 acts, of which 7 is undone; record 2, of kind 1, is locked. */
    private static void twoHundredActs(Rows x) {
        x.record(0);
        x.record(1);
        for (int i = 1; i <= 200; i++) {
            x.act(i % 50 == 0 ? 2 : 1, i % 3, i, 1, i / 2);
        }
        x.undo(7);
        x.lock(2, 9, 1000);
    }

    private static void thirtyBatches(Rows x) {
        x.record(0);
        for (int i = 1; i <= 64; i++) {
            x.act(1, i % 8, i, 1, i);
        }
        for (int i = 1; i <= 30; i++) {
            x.batch(2 * i - 1, 2 * i);
        }
    }

    // ---- What can be asked afterwards ----

    private static List<Calls> laterCalls(Calls before) {
        List<Calls> all = new ArrayList<>();
        for (int i = 1; i <= 21; i++) {
            int record = i;
            all.add(x -> histories(x, record));
            all.add(x -> values(x, record));
            all.add(x -> stales(x, record));
            all.add(x -> now(x, record));
        }
        for (int who = 7; who <= 9; who++) {
            int first = who;
            all.add(x -> locks(x, first));
        }
        all.add(ClauseTest::conflicts);
        all.add(ClauseTest::undosUp);
        all.add(ClauseTest::undosDown);
        all.add(ClauseTest::drops);
        all.add(ClauseTest::batchesOfOne);
        all.add(ClauseTest::batchesOfMore);
        all.add(ClauseTest::leans);
        all.add(ClauseTest::leansOfFarOnes);
        all.add(ClauseTest::marks);
        all.add(ClauseTest::newRecords);
        all.add(ClauseTest::newActs);
        all.add(before);
        return all;
    }

    private static void histories(Rows x, int record) {
        for (int field = 0; field <= 7; field++) {
            int i = 0;
            while (x.history(record, field, i) != 0) {
                i++;
            }
        }
    }

    private static void values(Rows x, int record) {
        for (int field = 0; field <= 7; field++) {
            for (long moment : MOMENTS) {
                x.at(record, field, moment);
            }
        }
    }

    private static void stales(Rows x, int record) {
        for (int field = 0; field <= 7; field++) {
            for (long moment : MOMENTS) {
                x.stale(record, moment, field);
            }
        }
    }

    // The second lock is refused if NOW is below the moment: so NOW shows itself.
    private static void now(Rows x, int record) {
        for (long moment : MOMENTS) {
            x.lock(record, 101, moment);
            x.lock(record, 102, moment);
            x.lock(record, 101, LEAST);
        }
    }

    private static void locks(Rows x, int first) {
        for (int record = 1; record <= 21; record++) {
            for (int i = 0; i < 3; i++) {
                x.lock(record, 7 + (first + i) % 3, 2000);
            }
            x.act(record, 1, 1, 1, 140 + record);
        }
        x.record(0);
        x.act(5, 1, 1, 1, 2000);
        for (int record = 1; record <= 21; record++) {
            x.act(record, 1, 1, 1, 1000);
        }
    }

    private static void conflicts(Rows x) {
        for (int i = 0; i < 100 && x.conflict(i, 0) != NONE; i++) {
            x.conflict(i, 1);
        }
    }

    private static void undosUp(Rows x) {
        for (int act = 0; act <= 201; act++) {
            x.undo(act);
        }
    }

    private static void undosDown(Rows x) {
        for (int act = 201; act >= 0; act--) {
            x.undo(act);
        }
    }

    private static void drops(Rows x) {
        for (int round = 1; round <= 2; round++) {
            for (int batch = 31; batch >= 0; batch--) {
                x.drop(batch);
            }
        }
        values(x, 1);
    }

    private static void batchesOfOne(Rows x) {
        for (int act = 0; act <= 201; act++) {
            x.batch(act, act);
        }
    }

    private static void batchesOfMore(Rows x) {
        for (int act = 201; act >= 2; act -= 8) {
            x.batch(act - 7, act);
            x.batch(act - 3, act);
            x.batch(act - 1, act);
        }
        for (int batch = 0; batch <= 31; batch++) {
            x.drop(batch);
        }
    }

    private static void leans(Rows x) {
        for (int act = 1; act <= 14; act++) {
            for (int other = 1; other <= 14; other++) {
                x.lean(act, other);
            }
        }
    }

    private static void leansOfFarOnes(Rows x) {
        for (int act = 201; act >= 2; act--) {
            x.lean(act, act - 1);
        }
        for (int other = 1; other <= 64; other++) {
            x.lean(200, other);
        }
    }

    private static void newRecords(Rows x) {
        for (int i = 0; i <= 21; i++) {
            x.record(i % 4);
        }
        marks(x);
    }

    // Which records can be deleted shows of which kind they are.
    private static void marks(Rows x) {
        for (int record = 1; record <= 21; record++) {
            x.act(record, 0, 1, 1, 150);
            x.act(record, 0, 0, 1, 150);
        }
    }

    private static void newActs(Rows x) {
        x.record(0);
        for (int i = 1; i <= 210; i++) {
            x.act(1 + i % 5, 6, i, 2, i);
        }
    }

    // ---- Nothing happens ----

    private static void refused(Calls before, int answer, Call... calls) {
        for (int i = 0; i < calls.length; i++) {
            String which = "call " + i;
            due(which, calls[i].on(made(before)), answer);
            Rows twice = made(before);
            calls[i].on(twice);
            due(which + ", again", calls[i].on(twice), answer);
            dueNothingHappens(which, before, calls[i]);
        }
    }

    private static void dueNothingHappens(String which, Calls before, Call call) {
        List<Calls> all = laterCalls(before);
        for (int row = 0; row < all.size(); row++) {
            Rows with = made(before);
            call.on(with);
            Rows without = made(before);
            int shift = with.answers.size() - without.answers.size();
            int start = without.answers.size();
            all.get(row).on(with);
            all.get(row).on(without);
            List<Integer> got = with.answers.subList(start + shift, with.answers.size());
            List<Integer> want = without.answers.subList(start, without.answers.size());
            if (!got.equals(want)) {
                wrong++;
                System.out.println("[" + clause + "] " + which + ": something happens, row of later calls " + row);
            }
        }
    }

    private static void taken(Calls before, int answer, Call call) {
        due("the call beside those that are refused", call.on(made(before)), answer);
    }

    // ---- Promise 1: A new object ----

    private static void newObject() {
        test("P1: No records", () -> {
            refused(ClauseTest::nothing, 0, x -> x.act(1, 1, 1, 1, 1), x -> x.act(0, 0, 0, 0, 0), x -> x.lock(1, 1, 1),
                x -> x.history(1, 1, 0), x -> x.history(0, 0, 0));
            refused(ClauseTest::nothing, NONE, x -> x.at(1, 1, 1), x -> x.at(0, 0, 0), x -> x.stale(1, 1, 1),
                x -> x.stale(0, 0, 0));
            taken(ClauseTest::nothing, 1, x -> x.record(0));
        });
        test("P1: no acts", () -> {
            Calls before = x -> x.record(0);
            refused(before, 0, x -> x.undo(1), x -> x.undo(0), x -> x.lean(2, 1), x -> x.lean(1, 0), x -> x.batch(1, 1),
                x -> x.batch(0, 0), x -> x.batch(1, 0), x -> x.drop(1), x -> x.drop(0), x -> x.history(1, 0, 0));
            refused(before, NONE, x -> x.at(1, 0, GREATEST), x -> x.conflict(0, 0), x -> x.conflict(0, 1));
            refused(before, 1, x -> x.stale(1, LEAST, 0));
            taken(before, 1, x -> x.act(1, 0, 0, 0, 0));
        });
        test("P1: of its own, whatever other objects hold", () -> {
            Rows full = made(ClauseTest::twoHundredActs);
            Rows other = made(x -> x.record(0));
            due("act", other.act(1, 1, 1, 1, 1), 1);
            due("at of the other", full.at(1, 1, 0), 1);
            due("undo", other.undo(1), 1);
            due("undo of the same number in the other", full.undo(1), 1);
        });
    }

    // ---- Promise 2: record ----

    private static void record() {
        test("P2: A record more, not locked", () -> {
            for (Calls before : List.<Calls>of(ClauseTest::nothing, ClauseTest::some, ClauseTest::thirtyBatches)) {
                Rows x = made(before);
                int number = x.record(0);
                due("somebody", x.lock(number, 1, LEAST), 1);
                due("somebody else", x.lock(number, 2, LEAST), 1);
                due("an act", Integer.signum(x.act(number, 1, 1, 1, LEAST)), 1);
            }
        });
        test("P2: 0 if there is no such kind", () -> {
            refused(ClauseTest::some, 0, x -> x.record(-1), x -> x.record(4), x -> x.record(5), x -> x.record(256),
                x -> x.record(Integer.MIN_VALUE), x -> x.record(Integer.MAX_VALUE));
            refused(ClauseTest::nothing, 0, x -> x.record(-1), x -> x.record(4));
            taken(ClauseTest::some, 5, x -> x.record(0));
            taken(ClauseTest::some, 5, x -> x.record(3));
        });
        test("P2: 0 if there are 20", () -> {
            refused(ClauseTest::twentyRecords, 0, x -> x.record(0), x -> x.record(1), x -> x.record(2),
                x -> x.record(3), x -> x.record(4), x -> x.record(-1));
            Calls nineteen = x -> {
                for (int i = 1; i <= 19; i++) {
                    x.record(0);
                }
            };
            taken(nineteen, 20, x -> x.record(0));
        });
    }

    // ---- Promise 3: act ----

    private static void act() {
        test("P3: if one that COUNTS is the same in all, that one's number, and nothing happens", () -> {
            refused(ClauseTest::some, 1, x -> x.act(1, 1, 5, 10, 100));
            refused(ClauseTest::some, 6, x -> x.act(3, 0, 1, 1, 120));
            refused(ClauseTest::some, 9, x -> x.act(1, 1, 5, 10, 140));
            refused(ClauseTest::some, 10, x -> x.act(3, 5, 2147483647L, LEAST, LEAST));
            refused(ClauseTest::some, 11, x -> x.act(1, 7, 0, GREATEST, -5));
        });
        test("P3: the same in all, not in all but one", () -> {
            taken(ClauseTest::some, 13, x -> x.act(3, 1, 5, 10, 100));
            taken(ClauseTest::some, 13, x -> x.act(1, 2, 5, 10, 100));
            taken(ClauseTest::some, 13, x -> x.act(1, 1, 7, 10, 100));
            taken(ClauseTest::some, 13, x -> x.act(1, 1, 5, 11, 100));
            taken(ClauseTest::some, 13, x -> x.act(1, 1, 5, 10, 101));
            taken(ClauseTest::some, 13, x -> x.act(1, 1, 5, 10 + (1L << 32), 100));
            taken(ClauseTest::some, 13, x -> x.act(1, 1, 5, 10, 100 + (1L << 32)));
        });
        test("P3: one that COUNTS is the same, not an undone one", () -> {
            taken(ClauseTest::some, 13, x -> x.act(1, 1, 4, 1, 150));
            Rows x = made(ClauseTest::some);
            due("the act that is undone, again", x.act(1, 1, 4, 1, 150), 13);
            due("and again", x.act(1, 1, 4, 1, 150), 13);
            due("the undone one stays undone", x.undo(12), 0);
        });
        test("P3: 0, and nothing happens, if there is no such record", () ->
            refused(ClauseTest::some, 0, x -> x.act(0, 1, 5, 10, 9999), x -> x.act(5, 1, 5, 10, 9999),
                x -> x.act(-1, 1, 5, 10, 9999), x -> x.act(20, 1, 5, 10, 9999), x -> x.act(21, 1, 5, 10, 9999),
                x -> x.act(Integer.MIN_VALUE, 1, 5, 10, 9999), x -> x.act(Integer.MAX_VALUE, 1, 5, 10, 9999)));
        test("P3: 0, and nothing happens, if there is no such field", () ->
            refused(ClauseTest::some, 0, x -> x.act(1, -1, 5, 10, 9999), x -> x.act(1, 8, 5, 10, 9999),
                x -> x.act(3, 9, 5, 10, 9999), x -> x.act(1, 257, 5, 10, 100),
                x -> x.act(1, Integer.MIN_VALUE, 5, 10, 9999), x -> x.act(1, Integer.MAX_VALUE, 5, 10, 9999)));
        test("P3: 0, and nothing happens, if there is no such value", () ->
            refused(ClauseTest::some, 0, x -> x.act(1, 1, -1, 10, 9999), x -> x.act(1, 1, 2147483648L, 10, 9999),
                x -> x.act(1, 0, LEAST, 10, 9999), x -> x.act(1, 0, GREATEST, 10, 9999),
                x -> x.act(1, 3, 4294967295L, 10, 9999), x -> x.act(1, 3, -4294967295L, 10, 9999)));
        actOfALockedOrDeletedRecord();
        actAheadAndBehind();
    }

    private static void actOfALockedOrDeletedRecord() {
        test("P3: 0, and nothing happens, if the record is LOCKED", () -> {
            refused(ClauseTest::some, 0, x -> x.act(2, 1, 1, 1, 1), x -> x.act(2, 0, 0, 1, 999),
                x -> x.act(2, 1, 1, 1, 1000), x -> x.act(2, 1, 1, 1, GREATEST), x -> x.act(4, 7, 1, 1, 9999));
            taken(ClauseTest::some, 13, x -> x.act(3, 1, 1, 1, 9999));
        });
        test("P3: LOCKED until NOW comes to the lock's end", () -> {
            Rows x = made(ClauseTest::some);
            due("NOW is 999", x.act(1, 1, 1, 1, 999), 13);
            due("locked", x.act(2, 1, 1, 1, 1), 0);
            due("NOW is 1000", x.act(1, 1, 1, 1, 1000), 14);
            due("not locked", x.act(2, 1, 1, 1, 1), 15);
            due("the other one is, until 5000", x.act(4, 1, 1, 1, 1), 0);
        });
        test("P3: 0, and nothing happens, if it would be DELETED and can't be", () -> {
            Calls before = x -> {
                some(x);
                x.lock(2, 7, LEAST);
            };
            refused(before, 0, x -> x.act(2, 0, 1, 1, 50), x -> x.act(2, 0, 1, 1, 9999),
                x -> x.act(2, 0, 1, 1, LEAST), x -> x.act(2, 0, 1, LEAST, 50), x -> x.act(2, 0, 1, GREATEST, GREATEST));
            taken(before, 13, x -> x.act(2, 0, 2, 1, 50));
            taken(before, 13, x -> x.act(2, 1, 1, 1, 50));
            taken(before, 13, x -> x.act(1, 0, 1, 1, 50));
            taken(before, 4, x -> x.act(2, 0, 0, 1, 50));
        });
        test("P3: DELETED can be what is not of kind 1", () -> {
            Calls before = x -> {
                some(x);
                x.lock(4, 8, LEAST);
            };
            taken(before, 13, x -> x.act(1, 0, 1, 1, 50));
            taken(before, 13, x -> x.act(3, 0, 1, 1, 50));
            taken(before, 13, x -> x.act(4, 0, 1, 1, 50));
        });
    }

    private static void actAheadAndBehind() {
        test("P3: LOCKED goes ahead of the same act", () ->
            refused(ClauseTest::some, 0, x -> x.act(2, 0, 0, 1, 50), x -> x.act(2, 3, 8, 1, 110)));
        test("P3: no such value goes ahead of the same act", () ->
            refused(ClauseTest::some, 0, x -> x.act(1, 1, 5 + (1L << 32), 10, 100),
                x -> x.act(1, 1, 5 - (1L << 32), 10, 100), x -> x.act(3, 5, -1 + (1L << 31) - (1L << 32), LEAST, LEAST)));
        test("P3: 0, and nothing happens, if there are 200", () -> {
            refused(ClauseTest::twoHundredActs, 0, x -> x.act(1, 1, 999, 1, 1), x -> x.act(1, 0, 1, 1, 9999),
                x -> x.act(1, 7, 0, LEAST, LEAST));
            Calls one199 = x -> {
                x.record(0);
                for (int i = 1; i <= 199; i++) {
                    x.act(1, 1, i, 1, 1);
                }
            };
            taken(one199, 200, x -> x.act(1, 1, 999, 1, 1));
        });
        test("P3: 200 goes behind the same act", () -> {
            refused(ClauseTest::twoHundredActs, 1, x -> x.act(1, 1, 1, 1, 0));
            refused(ClauseTest::twoHundredActs, 199, x -> x.act(1, 1, 199, 1, 99));
        });
        test("P3: 200, and the same act is undone", () ->
            refused(ClauseTest::twoHundredActs, 0, x -> x.act(1, 1, 7, 1, 3)));
        test("P3: 200, the same act, and LOCKED", () ->
            refused(ClauseTest::twoHundredActs, 0, x -> x.act(2, 2, 200, 1, 100)));
    }

    // ---- Promise 4: at ----

    private static void at() {
        test("P4: NONE if there is none", () -> {
            refused(ClauseTest::some, NONE, x -> x.at(1, 3, GREATEST), x -> x.at(1, 1, 99), x -> x.at(1, 1, LEAST),
                x -> x.at(1, 7, -6), x -> x.at(4, 0, GREATEST));
            taken(ClauseTest::some, 5, x -> x.at(1, 1, 100));
            taken(ClauseTest::some, 0, x -> x.at(1, 7, -5));
            taken(ClauseTest::some, 2147483647, x -> x.at(3, 5, LEAST));
        });
        test("P4: NONE if there is none that COUNTS", () -> {
            Calls before = x -> {
                some(x);
                x.undo(11);
            };
            refused(before, NONE, x -> x.at(1, 7, -5), x -> x.at(1, 7, GREATEST));
            taken(before, 5, x -> x.at(1, 1, 150));
        });
        test("P4: NONE if there is no such field", () ->
            refused(ClauseTest::some, NONE, x -> x.at(1, -1, 100), x -> x.at(1, 8, 100), x -> x.at(2, -7, 100),
                x -> x.at(1, 257, 100), x -> x.at(1, Integer.MIN_VALUE, 100), x -> x.at(1, Integer.MAX_VALUE, 100)));
        test("P4: NONE if there is no such record", () ->
            refused(ClauseTest::some, NONE, x -> x.at(0, 1, 100), x -> x.at(5, 1, 100), x -> x.at(-1, 1, 100),
                x -> x.at(21, 1, 100), x -> x.at(257, 1, 100), x -> x.at(Integer.MIN_VALUE, 1, 100),
                x -> x.at(Integer.MAX_VALUE, 1, 100)));
    }

    // ---- Promise 5: stale ----

    private static void stale() {
        test("P5: 1 if none of its acts has a KNOWN above that", () -> {
            refused(ClauseTest::some, 1, x -> x.stale(1, 140, 1), x -> x.stale(1, GREATEST, 1), x -> x.stale(1, -5, 7),
                x -> x.stale(3, LEAST, 5), x -> x.stale(3, 130, 4));
            taken(ClauseTest::some, 0, x -> x.stale(3, 129, 4));
        });
        test("P5: 1 for a field without acts", () ->
            refused(ClauseTest::some, 1, x -> x.stale(1, LEAST, 3), x -> x.stale(4, GREATEST, 0)));
        test("P5: 1 if only acts that do not COUNT have a KNOWN above that", () -> {
            refused(ClauseTest::some, 1, x -> x.stale(1, 149, 1));
            Calls before = x -> {
                some(x);
                x.undo(11);
            };
            refused(before, 1, x -> x.stale(1, LEAST, 7));
        });
        test("P5: 2 if the last one in ORDER leaves the value that it had then", () -> {
            refused(ClauseTest::some, 2, x -> x.stale(1, 100, 1), x -> x.stale(1, 139, 1));
            Calls back = x -> {
                some(x);
                x.act(1, 1, 3, 9, 145);
                x.act(1, 1, 5, 8, 145);
            };
            taken(back, 0, x -> x.stale(1, 100, 1));
            taken(back, 0, x -> x.stale(1, 144, 1));
        });
        test("P5: else 0", () -> {
            Calls other = x -> {
                some(x);
                x.act(1, 1, 6, 10, 141);
            };
            refused(other, 0, x -> x.stale(1, 100, 1), x -> x.stale(1, 140, 1));
            taken(other, 1, x -> x.stale(1, 141, 1));
        });
        test("P5: else 0, if it had no value then", () ->
            refused(ClauseTest::some, 0, x -> x.stale(1, 99, 1), x -> x.stale(1, LEAST, 1), x -> x.stale(1, -6, 7)));
        test("P5: NONE if there is no such field", () ->
            refused(ClauseTest::some, NONE, x -> x.stale(1, 100, -1), x -> x.stale(1, 100, 8),
                x -> x.stale(1, 100, 257), x -> x.stale(1, 100, Integer.MIN_VALUE),
                x -> x.stale(1, 100, Integer.MAX_VALUE)));
        test("P5: NONE if there is no such record", () ->
            refused(ClauseTest::some, NONE, x -> x.stale(0, 100, 1), x -> x.stale(5, 100, 1), x -> x.stale(-1, 100, 1),
                x -> x.stale(21, 100, 1), x -> x.stale(Integer.MIN_VALUE, 100, 1),
                x -> x.stale(Integer.MAX_VALUE, 100, 1)));
    }

    // ---- Promise 6: undo ----

    private static void undo() {
        test("P6: 0, and nothing happens, if there is none such", () -> {
            refused(ClauseTest::some, 0, x -> x.undo(0), x -> x.undo(13), x -> x.undo(-1), x -> x.undo(200),
                x -> x.undo(201), x -> x.undo(257), x -> x.undo(Integer.MIN_VALUE), x -> x.undo(Integer.MAX_VALUE));
            refused(ClauseTest::twoHundredActs, 0, x -> x.undo(201), x -> x.undo(0));
            taken(ClauseTest::twoHundredActs, 1, x -> x.undo(200));
        });
        test("P6: 0, and nothing happens, if it is UNDONE", () -> {
            refused(ClauseTest::some, 0, x -> x.undo(12));
            Calls dropped = x -> {
                some(x);
                x.drop(2);
            };
            refused(dropped, 0, x -> x.undo(7), x -> x.undo(8));
        });
        test("P6: 0, and nothing happens, if an act that COUNTS leans on it", () -> {
            refused(ClauseTest::some, 0, x -> x.undo(1), x -> x.undo(3), x -> x.undo(4), x -> x.undo(6),
                x -> x.undo(7));
            taken(ClauseTest::some, 1, x -> x.undo(2));
            taken(ClauseTest::some, 1, x -> x.undo(9));
            taken(ClauseTest::twoHundredActs, 1, x -> x.undo(199));
            Calls ends = x -> {
                twoHundredActs(x);
                x.lean(200, 199);
                x.lean(200, 1);
            };
            refused(ends, 0, x -> x.undo(199), x -> x.undo(1));
        });
        test("P6: an act that does not COUNT leans on it: 1", () -> {
            Rows x = made(ClauseTest::some);
            due("an undone act leans", x.lean(12, 11), 1);
            due("undo what it leans on", x.undo(11), 1);
            due("undo what leans on 3 and 6", x.undo(9), 1);
            due("undo 3", x.undo(3), 1);
            due("undo 1, that 3 leans on", x.undo(1), 1);
        });
    }

    // ---- Promise 7: lean ----

    private static void lean() {
        test("P7: 0 if the act is not there", () ->
            refused(ClauseTest::some, 0, x -> x.lean(13, 1), x -> x.lean(0, -1), x -> x.lean(-1, -2),
                x -> x.lean(200, 1), x -> x.lean(201, 1), x -> x.lean(Integer.MAX_VALUE, 1),
                x -> x.lean(Integer.MIN_VALUE, 1)));
        test("P7: 0 if the other one is not there", () ->
            refused(ClauseTest::some, 0, x -> x.lean(2, 0), x -> x.lean(2, -1), x -> x.lean(12, 13),
                x -> x.lean(12, -63), x -> x.lean(2, 201), x -> x.lean(2, Integer.MIN_VALUE),
                x -> x.lean(2, Integer.MAX_VALUE)));
        test("P7: 0 if both are not there", () ->
            refused(ClauseTest::some, 0, x -> x.lean(14, 13), x -> x.lean(201, 200), x -> x.lean(0, 0),
                x -> x.lean(Integer.MAX_VALUE, Integer.MIN_VALUE)));
        test("P7: 0 if the other one did not come before it", () -> {
            refused(ClauseTest::some, 0, x -> x.lean(2, 2), x -> x.lean(2, 3), x -> x.lean(1, 12), x -> x.lean(12, 12));
            taken(ClauseTest::some, 1, x -> x.lean(3, 2));
            taken(ClauseTest::some, 1, x -> x.lean(12, 1));
        });
        test("P7: undone acts are there", () -> {
            Calls undone = x -> {
                some(x);
                x.undo(10);
            };
            taken(undone, 1, x -> x.lean(11, 10));
            taken(undone, 1, x -> x.lean(12, 11));
            taken(undone, 1, x -> x.lean(12, 10));
            taken(undone, 1, x -> x.lean(10, 1));
        });
        test("P7: before it by number, whatever its KNOWN", () ->
            taken(ClauseTest::some, 1, x -> x.lean(10, 9)));
        test("P7: 0 if it does already", () -> {
            refused(ClauseTest::some, 0, x -> x.lean(3, 1), x -> x.lean(5, 4), x -> x.lean(9, 3), x -> x.lean(9, 6));
            Calls far = x -> {
                twoHundredActs(x);
                x.lean(200, 199);
                x.lean(129, 1);
            };
            refused(far, 0, x -> x.lean(200, 199), x -> x.lean(129, 1));
            taken(far, 1, x -> x.lean(200, 135));
            taken(far, 1, x -> x.lean(129, 65));
            taken(far, 1, x -> x.lean(65, 1));
        });
        test("P7: it does not already if another one does, or it leans on that through another", () -> {
            taken(ClauseTest::some, 1, x -> x.lean(9, 1));
            taken(ClauseTest::some, 1, x -> x.lean(4, 1));
            taken(ClauseTest::some, 1, x -> x.lean(9, 5));
        });
    }

    // ---- Promise 8: lock ----

    private static void lock() {
        test("P8: 0, and nothing happens, if there is no such record", () ->
            refused(ClauseTest::some, 0, x -> x.lock(0, 7, 9999), x -> x.lock(5, 7, 9999), x -> x.lock(-1, 7, 9999),
                x -> x.lock(20, 7, 9999), x -> x.lock(21, 7, 9999), x -> x.lock(258, 7, 9999),
                x -> x.lock(Integer.MIN_VALUE, 7, 9999), x -> x.lock(Integer.MAX_VALUE, 7, 9999)));
        test("P8: 0, and nothing happens, if it is LOCKED by somebody else", () -> {
            refused(ClauseTest::some, 0, x -> x.lock(2, 8, 9999), x -> x.lock(2, 8, LEAST), x -> x.lock(2, 0, 1000),
                x -> x.lock(2, -7, GREATEST), x -> x.lock(4, 7, 9999), x -> x.lock(4, Integer.MIN_VALUE, 0));
            taken(ClauseTest::some, 1, x -> x.lock(2, 7, 9999));
            taken(ClauseTest::some, 1, x -> x.lock(1, 8, 9999));
        });
        test("P8: LOCKED until NOW comes to the lock's end", () -> {
            Rows x = made(ClauseTest::some);
            due("NOW is 999", x.act(1, 1, 1, 1, 999), 13);
            due("locked", x.lock(2, 8, 5000), 0);
            due("NOW is 1000", x.act(1, 1, 1, 1, 1000), 14);
            due("not locked", x.lock(2, 8, 5000), 1);
            due("who had it has it no more", x.lock(2, 7, 5000), 0);
        });
        test("P8: in place of what they had, a later end", () -> {
            Rows x = made(ClauseTest::some);
            due("a later end", x.lock(2, 7, 2000), 1);
            due("NOW is 1000", x.act(1, 1, 1, 1, 1000), 13);
            due("locked still", x.lock(2, 8, 5000), 0);
            due("an act", x.act(2, 1, 1, 1, 1), 0);
        });
        test("P8: in place of what they had, an earlier end", () -> {
            Rows x = made(ClauseTest::some);
            due("an earlier end", x.lock(2, 7, 151), 1);
            due("locked still", x.lock(2, 8, 5000), 0);
            due("the end is NOW", x.lock(2, 7, 150), 1);
            due("an act", x.act(2, 1, 1, 1, 1), 13);
            due("not locked", x.lock(2, 8, 5000), 1);
        });
    }

    // ---- Promise 9: batch ----

    private static void batch() {
        test("P9: 0, and nothing happens, if one of these is not there", () -> {
            refused(ClauseTest::some, 0, x -> x.batch(0, 2), x -> x.batch(-1, 1), x -> x.batch(12, 13),
                x -> x.batch(13, 13), x -> x.batch(0, 0), x -> x.batch(9, 200), x -> x.batch(9, 201),
                x -> x.batch(Integer.MIN_VALUE, 1), x -> x.batch(9, Integer.MAX_VALUE),
                x -> x.batch(Integer.MIN_VALUE, Integer.MAX_VALUE),
                x -> x.batch(Integer.MAX_VALUE, Integer.MAX_VALUE));
            refused(ClauseTest::twoHundredActs, 0, x -> x.batch(200, 201), x -> x.batch(0, 200));
            taken(ClauseTest::some, 3, x -> x.batch(9, 12));
            taken(ClauseTest::some, 3, x -> x.batch(1, 3));
            taken(ClauseTest::twoHundredActs, 1, x -> x.batch(1, 200));
        });
        test("P9: 0, and nothing happens, if one of these is in a batch", () -> {
            refused(ClauseTest::some, 0, x -> x.batch(3, 4), x -> x.batch(8, 9), x -> x.batch(1, 12),
                x -> x.batch(4, 6), x -> x.batch(5, 5), x -> x.batch(6, 7));
            taken(ClauseTest::some, 3, x -> x.batch(2, 3));
            taken(ClauseTest::some, 3, x -> x.batch(9, 10));
        });
        test("P9: in a batch that was dropped", () -> {
            Calls dropped = x -> {
                some(x);
                x.drop(2);
            };
            refused(dropped, 0, x -> x.batch(7, 7), x -> x.batch(8, 9), x -> x.batch(7, 8));
        });
        test("P9: 0, and nothing happens, if there are none", () ->
            refused(ClauseTest::some, 0, x -> x.batch(3, 2), x -> x.batch(2, 1), x -> x.batch(12, 9),
                x -> x.batch(1, 0), x -> x.batch(13, 12), x -> x.batch(Integer.MAX_VALUE, Integer.MIN_VALUE)));
        test("P9: 0, and nothing happens, if there are 30 batches", () -> {
            refused(ClauseTest::thirtyBatches, 0, x -> x.batch(61, 62), x -> x.batch(61, 61), x -> x.batch(64, 64),
                x -> x.batch(61, 64));
            Calls dropped = x -> {
                thirtyBatches(x);
                x.drop(30);
            };
            refused(dropped, 0, x -> x.batch(61, 62));
            Calls twentyNine = x -> {
                x.record(0);
                x.act(1, 1, 99, 1, 99);
                for (int i = 1; i <= 29; i++) {
                    x.act(1, 1, i, 1, i);
                    x.batch(i, i);
                }
            };
            taken(twentyNine, 30, x -> x.batch(30, 30));
        });
        test("P9: undone acts are there", () -> {
            taken(ClauseTest::some, 3, x -> x.batch(12, 12));
            taken(ClauseTest::some, 3, x -> x.batch(10, 12));
        });
    }

    // ---- Promise 10: drop ----

    private static void drop() {
        test("P10: 0, and nothing happens, if there is no such batch", () -> {
            refused(ClauseTest::some, 0, x -> x.drop(0), x -> x.drop(3), x -> x.drop(-1), x -> x.drop(30),
                x -> x.drop(31), x -> x.drop(258), x -> x.drop(Integer.MIN_VALUE), x -> x.drop(Integer.MAX_VALUE));
            refused(ClauseTest::thirtyBatches, 0, x -> x.drop(31), x -> x.drop(0));
            taken(ClauseTest::thirtyBatches, 2, x -> x.drop(30));
            taken(ClauseTest::thirtyBatches, 2, x -> x.drop(1));
        });
        test("P10: 0, and nothing happens, if none of them COUNTS", () -> {
            Calls dropped = x -> {
                some(x);
                x.drop(2);
            };
            refused(dropped, 0, x -> x.drop(2));
            Calls undone = x -> {
                some(x);
                x.batch(11, 12);
                x.undo(11);
            };
            refused(undone, 0, x -> x.drop(3));
        });
        test("P10: only those that COUNT are undone, and told", () -> {
            Calls before = x -> {
                some(x);
                x.batch(10, 12);
            };
            taken(before, 2, x -> x.drop(3));
        });
        test("P10: 0, and nothing happens, if an act that COUNTS and is not in it leans on one of them", () -> {
            refused(ClauseTest::some, 0, x -> x.drop(1));
            Calls byABatch = x -> {
                some(x);
                x.undo(9);
                x.lean(8, 4);
            };
            refused(byABatch, 0, x -> x.drop(1));
            Calls ends = x -> {
                twoHundredActs(x);
                x.lean(200, 1);
                x.batch(1, 199);
            };
            refused(ends, 0, x -> x.drop(1));
        });
        test("P10: an act that does not COUNT leans on one of them", () -> {
            Rows x = made(ClauseTest::some);
            due("undo what leans on it", x.undo(9), 1);
            due("an undone one leans too", x.lean(12, 5), 1);
            due("drop", x.drop(1), 3);
        });
        test("P10: acts in it lean on one another, those that came last first", () -> {
            taken(ClauseTest::some, 2, x -> x.drop(2));
            Calls row = x -> {
                x.record(0);
                for (int i = 1; i <= 9; i++) {
                    x.act(1, 1, i, 1, 10 - i);
                    x.lean(i, i - 1);
                }
                x.batch(1, 9);
            };
            taken(row, 9, x -> x.drop(1));
        });
        test("P10: an act that COUNTS leans on one of them that does not", () -> {
            Calls before = x -> {
                some(x);
                x.batch(11, 12);
                x.act(1, 6, 1, 1, 1);
                x.lean(13, 12);
            };
            taken(before, 1, x -> x.drop(3));
        });
        test("P10: acts in it lean on others", () -> {
            Calls before = x -> {
                some(x);
                x.batch(9, 9);
            };
            taken(before, 1, x -> x.drop(3));
        });
    }

    // ---- Promise 11: conflict ----

    private static void conflict() {
        test("P11: the i-th pair, from 0 on", () -> {
            taken(ClauseTest::some, 1, x -> x.conflict(0, 0));
            taken(ClauseTest::some, 2, x -> x.conflict(0, 1));
            taken(ClauseTest::some, 7, x -> x.conflict(1, 0));
            taken(ClauseTest::some, 8, x -> x.conflict(1, 1));
        });
        test("P11: by the lower number, then by the higher one", () -> {
            Calls before = x -> {
                x.record(0);
                x.act(1, 1, 1, 9, 7);
                x.act(1, 2, 1, 1, 3);
                x.act(1, 1, 2, 8, 7);
                x.act(1, 2, 2, 1, 3);
                x.act(1, 1, 3, 7, 7);
            };
            int[][] pairs = {{1, 3}, {1, 5}, {2, 4}, {3, 5}, {NONE, NONE}};
            for (int i = 0; i < pairs.length; i++) {
                due("lower of pair " + i, made(before).conflict(i, 0), pairs[i][0]);
                due("higher of pair " + i, made(before).conflict(i, 1), pairs[i][1]);
            }
        });
        test("P11: NONE if there is none such", () -> {
            refused(ClauseTest::some, NONE, x -> x.conflict(2, 0), x -> x.conflict(2, 1), x -> x.conflict(-1, 0),
                x -> x.conflict(-1, 1), x -> x.conflict(Integer.MIN_VALUE, 0), x -> x.conflict(Integer.MAX_VALUE, 1));
            refused(ClauseTest::nothing, NONE, x -> x.conflict(0, 0), x -> x.conflict(0, 1));
        });
        test("P11: the last pair that can be", () -> {
            Calls all = x -> {
                x.record(0);
                for (int i = 1; i <= 200; i++) {
                    x.act(1, 1, i, 1, 1);
                }
            };
            taken(all, 199, x -> x.conflict(19899, 0));
            taken(all, 200, x -> x.conflict(19899, 1));
            taken(all, NONE, x -> x.conflict(19900, 0));
            taken(all, NONE, x -> x.conflict(19900, 1));
        });
        test("P11: NONE for another what", () ->
            refused(ClauseTest::some, NONE, x -> x.conflict(0, -1), x -> x.conflict(0, 2), x -> x.conflict(1, 2),
                x -> x.conflict(0, 256), x -> x.conflict(0, Integer.MIN_VALUE), x -> x.conflict(0, Integer.MAX_VALUE)));
    }

    // ---- Promise 12: history ----

    private static void history() {
        test("P12: the i-th act, from 0 on, in ORDER, undone or not", () -> {
            int[] order = {2, 1, 9, 12};
            for (int i = 0; i < order.length; i++) {
                int place = i;
                taken(ClauseTest::some, order[i], x -> x.history(1, 1, place));
            }
        });
        test("P12: 0 if there is none such, below the first or behind the last", () ->
            refused(ClauseTest::some, 0, x -> x.history(1, 1, -1), x -> x.history(1, 1, 4), x -> x.history(1, 3, 0),
                x -> x.history(1, 1, Integer.MIN_VALUE), x -> x.history(1, 1, Integer.MAX_VALUE)));
        test("P12: 0 if there is none such, of no such field", () ->
            refused(ClauseTest::some, 0, x -> x.history(1, -1, 0), x -> x.history(1, 8, 0), x -> x.history(1, 257, 0),
                x -> x.history(2, -7, 0), x -> x.history(1, Integer.MIN_VALUE, 0),
                x -> x.history(1, Integer.MAX_VALUE, 0)));
        test("P12: 0 if there is none such, of no such record", () ->
            refused(ClauseTest::some, 0, x -> x.history(0, 1, 0), x -> x.history(5, 1, 0), x -> x.history(-1, 1, 0),
                x -> x.history(21, 1, 0), x -> x.history(0, 0, 0), x -> x.history(Integer.MIN_VALUE, 1, 0),
                x -> x.history(Integer.MAX_VALUE, 1, 0)));
        test("P12: of a full field", () -> {
            Calls full = x -> {
                x.record(0);
                for (int i = 1; i <= 200; i++) {
                    x.act(1, 7, i, 1, -i);
                }
            };
            taken(full, 200, x -> x.history(1, 7, 0));
            taken(full, 1, x -> x.history(1, 7, 199));
            refused(full, 0, x -> x.history(1, 7, 200), x -> x.history(1, 7, 201), x -> x.history(1, 7, -1));
        });
    }

    // ---- All of them, in any run ----

    /** One object gets all calls of a run, its twin only those that changed something: both must end alike. */
    private static void anyRun() {
        for (int seed = 1; seed <= 400; seed++) {
            Random random = new Random(seed);
            Rows all = new Rows();
            List<Call> changes = new ArrayList<>();
            for (int i = 0; i < 150; i++) {
                Call call = anyCall(random);
                int acts = actCount(changes);
                int answer = call.on(all);
                if (isChange(call, answer, acts)) {
                    changes.add(call);
                }
            }
            dueAlike(seed, all, changes);
        }
    }

    /** A call that asks only is never a change; one that may change tells which call it is. */
    private static final class Change implements Call {
        private final boolean isAct;
        private final Call call;

        Change(boolean isAct, Call call) {
            this.isAct = isAct;
            this.call = call;
        }

        @Override
        public int on(Rows x) {
            return call.on(x);
        }
    }

    private static int actCount(List<Call> changes) {
        int count = 0;
        for (Call call : changes) {
            if (((Change) call).isAct) {
                count++;
            }
        }
        return count;
    }

    // An act that answers a number that was there already is the same act again.
    private static boolean isChange(Call call, int answer, int acts) {
        return call instanceof Change change && answer != 0 && (!change.isAct || answer > acts);
    }

    private static void dueAlike(int seed, Rows all, List<Call> changes) {
        Rows few = new Rows();
        for (Call call : changes) {
            call.on(few);
        }
        int allStart = all.answers.size();
        int fewStart = few.answers.size();
        Random random = new Random(-seed);
        for (int i = 0; i < 360; i++) {
            Call call = anyCall(random);
            call.on(all);
            call.on(few);
        }
        List<Integer> got = all.answers.subList(allStart, all.answers.size());
        if (!got.equals(few.answers.subList(fewStart, few.answers.size()))) {
            wrong++;
            System.out.println("[" + clause + "] run " + seed + ": its refused calls have changed something");
        }
    }

    private static Call anyCall(Random random) {
        int record = random.nextInt(5);
        int field = random.nextInt(10) == 0 ? 8 - 9 * random.nextInt(2) : random.nextInt(3);
        int number = random.nextInt(40);
        int other = random.nextInt(40);
        int value = random.nextInt(4) - (random.nextInt(20) == 0 ? 4 : 0);
        long valid = random.nextInt(3);
        long known = random.nextInt(20);
        switch (random.nextInt(14)) {
            case 0:
                return new Change(false, x -> x.record(value));
            case 1:
                return new Change(false, x -> x.undo(number));
            case 2:
                return new Change(false, x -> x.lean(number, other));
            case 3:
                return new Change(false, x -> x.lock(record, value, known));
            case 4:
                return new Change(false, x -> x.batch(number, number + value));
            case 5:
                return new Change(false, x -> x.drop(number / 8));
            case 6:
                return x -> x.at(record, field, known);
            case 7:
                return x -> x.stale(record, known, field);
            case 8:
                return x -> x.conflict(value, number % 3);
            case 9:
                return x -> x.history(record, field, number / 4);
            default:
                return new Change(true, x -> x.act(record, field, value, valid, known));
        }
    }
}
