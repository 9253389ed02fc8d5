/** Each limit that the document's "What it is" and "Terms" name, with a test of its own. */
public final class LimitTest {
    private static final int NONE = VersionRows.NONE;
    private static final long LEAST = Long.MIN_VALUE;
    private static final long GREATEST = Long.MAX_VALUE;

    private static String sentence = "";
    private static int sentences = 0;
    private static int wrong = 0;

    public static void main(String[] args) {
        test("An object is used for at most 512 calls", LimitTest::the512thCall);
        test("RECORDS are 1 .. 20, as they come", LimitTest::recordsAsTheyCome);
        test("RECORDS are 1 .. 20: others are none", LimitTest::recordsBesideThem);
        test("RECORDS as they come: later ones are not there yet", LimitTest::recordsNotYetThere);
        test("each of a KIND, 0 .. 3", LimitTest::kinds);
        test("FIELDS 0 .. 7", LimitTest::fields);
        test("FIELDS 0 .. 7: others are none", LimitTest::fieldsBesideThem);
        test("ACTS are 1 .. 200, as they come", LimitTest::actsAsTheyCome);
        test("ACTS are 1 .. 200: others are none", LimitTest::actsBesideThem);
        test("a value (0 .. 2147483647)", LimitTest::values);
        test("a value (0 .. 2147483647): others are none", LimitTest::valuesBesideThem);
        test("a VALID day (a long)", LimitTest::validDays);
        test("a KNOWN moment (a long)", LimitTest::knownMoments);
        test("An act COUNTS, or is UNDONE", LimitTest::undoneActs);
        test("ORDER by KNOWN", LimitTest::orderByKnown);
        test("ORDER by KNOWN, then VALID", LimitTest::orderByValid);
        test("ORDER by KNOWN, then VALID, then number", LimitTest::orderByNumber);
        test("NOW is the greatest KNOWN", LimitTest::nowIsTheGreatest);
        test("NOW is that of all acts", LimitTest::nowOfAllRecords);
        test("NOW is that of acts undone or not", LimitTest::nowOfUndoneActs);
        test("NOW is the least long without an act", LimitTest::nowWithoutAnAct);
        test("a value is of an act whose KNOWN is not above the moment", LimitTest::notAboveTheMoment);
        test("a value is of an act that COUNTS", LimitTest::valueOfOneThatCounts);
        test("Field 0 is the mark of being DELETED (1) or not", LimitTest::deletedMark);
        test("a record of kind 1 can't be DELETED", LimitTest::kindThatCantBeDeleted);
        test("LOCKED while NOW is below UNTIL", LimitTest::lockedWhileNowIsBelow);
        test("LOCKED: UNTIL is any long", LimitTest::lockedUntilAnyLong);
        test("LOCKED by somebody, whatever their number", LimitTest::lockedByAnybody);
        test("LEAN on others that came before", LimitTest::leanOnOnesBefore);
        test("LEAN on others: one on many, many on one", LimitTest::leanOnMany);
        test("BATCHES 1 .. 30, as they come", LimitTest::batchesAsTheyCome);
        test("BATCHES 1 .. 30: others are none", LimitTest::batchesBesideThem);
        test("a BATCH is a row of acts: from one to all", LimitTest::batchesOfAnyLength);
        test("an act is in one batch at most", LimitTest::oneBatchAtMost);
        test("CONFLICT if both COUNT", LimitTest::conflictOfTwoThatCount);
        test("CONFLICT of the same field", LimitTest::conflictOfOneField);
        test("CONFLICT of the same record", LimitTest::conflictOfOneRecord);
        test("CONFLICT with the same KNOWN", LimitTest::conflictOfOneMoment);
        test("CONFLICT not of the same value", LimitTest::conflictOfTwoValues);
        test("NONE = -1", () -> due("NONE", NONE, -1));
        System.out.println("LimitTest: " + sentences + " sentences, " + wrong + " wrong answers");
        if (wrong != 0) {
            System.exit(1);
        }
    }

    private static void test(String words, Runnable body) {
        sentence = words;
        sentences++;
        try {
            body.run();
        } catch (RuntimeException e) {
            wrong++;
            System.out.println("[" + sentence + "] threw " + e);
        }
    }

    private static void due(String what, long got, long want) {
        if (got != want) {
            wrong++;
            System.out.println("[" + sentence + "] " + what + ": answered " + got + ", due is " + want);
        }
    }

    private static VersionRows withRecords(int... kinds) {
        VersionRows x = new VersionRows();
        for (int i = 0; i < kinds.length; i++) {
            due("record " + (i + 1), x.record(kinds[i]), i + 1);
        }
        return x;
    }

    /** One record whose field 1 has so many acts, of values and moments 1, 2, 3 and so on. */
    private static VersionRows withActs(int count) {
        VersionRows x = withRecords(0);
        for (int i = 1; i <= count; i++) {
            due("act " + i, x.act(1, 1, i, 1, i), i);
        }
        return x;
    }

    private static void dueHistory(VersionRows x, int record, int field, int... acts) {
        for (int i = 0; i < acts.length; i++) {
            due("place " + i + " in ORDER", x.history(record, field, i), acts[i]);
        }
        due("behind the last in ORDER", x.history(record, field, acts.length), 0);
    }

    // Two locks by two people tell whether NOW is below a moment: only then the second is refused.
    private static void dueNow(VersionRows x, int freeRecord, long now) {
        due("until NOW, by one", x.lock(freeRecord, 1, now), 1);
        due("until NOW, by another", x.lock(freeRecord, 2, now), 1);
        if (now < GREATEST) {
            due("until behind NOW, by one", x.lock(freeRecord, 1, now + 1), 1);
            due("until behind NOW, by another", x.lock(freeRecord, 2, now + 1), 0);
            due("free again", x.lock(freeRecord, 1, LEAST), 1);
        }
    }

    private static VersionRows after511Calls() {
        VersionRows x = new VersionRows();
        int calls = 0;
        for (int i = 1; i <= 19; i++, calls++) {
            due("record " + i, x.record(0), i);
        }
        for (int i = 1; i <= 199; i++, calls++) {
            due("act " + i, x.act(1, 1, i, 1, Math.min(i, 198)), i);
        }
        due("batch", x.batch(1, 2), 1);
        for (calls++; calls < 511; calls++) {
            due("call " + (calls + 1), x.at(1, 1, 7), 7);
        }
        return x;
    }

    private static void the512thCall() {
        due("record", after511Calls().record(3), 20);
        due("act", after511Calls().act(19, 7, 5, 1, 500), 200);
        due("at", after511Calls().at(1, 1, GREATEST), 199);
        due("stale", after511Calls().stale(1, 197, 1), 0);
        due("undo", after511Calls().undo(199), 1);
        due("lean", after511Calls().lean(199, 1), 1);
        due("lock", after511Calls().lock(19, 1, 1), 1);
        due("batch", after511Calls().batch(3, 199), 2);
        due("drop", after511Calls().drop(1), 2);
        due("conflict", after511Calls().conflict(0, 1), 199);
        due("history", after511Calls().history(1, 1, 198), 199);
    }

    private static VersionRows withTwentyRecords() {
        VersionRows x = new VersionRows();
        for (int i = 1; i <= 20; i++) {
            due("record " + i, x.record(i % 4), i);
        }
        return x;
    }

    private static void recordsAsTheyCome() {
        VersionRows x = withTwentyRecords();
        for (int i = 1; i <= 20; i++) {
            due("act on record " + i, x.act(i, 1, 100 + i, 1, 1), i);
        }
        for (int i = 1; i <= 20; i++) {
            due("value of record " + i, x.at(i, 1, 1), 100 + i);
            due("stale of record " + i, x.stale(i, 1, 1), 1);
            due("history of record " + i, x.history(i, 1, 0), i);
            due("lock of record " + i, x.lock(i, i, 9), 1);
        }
    }

    private static void recordsBesideThem() {
        VersionRows x = withTwentyRecords();
        for (int field = 0; field <= 7; field += 7) {
            x.act(20, field, 3, 1, 1);
            x.act(4, field, 3, 1, 1);
        }
        int[] numbers = {Integer.MIN_VALUE, -20, -1, 0, 21, 22, 256 + 4, 65536 + 4, Integer.MAX_VALUE};
        for (int n : numbers) {
            due("act on record " + n, x.act(n, 0, 1, 1, 1), 0);
            due("at of record " + n, x.at(n, 0, 1), NONE);
            due("stale of record " + n, x.stale(n, 1, 0), NONE);
            due("lock of record " + n, x.lock(n, 1, 1), 0);
            due("history of record " + n, x.history(n, 0, 0), 0);
        }
    }

    private static void recordsNotYetThere() {
        VersionRows x = new VersionRows();
        for (int i = 1; i <= 20; i++) {
            due("act on record " + i, x.act(i, 1, 1, 1, 1), 0);
            due("at of record " + i, x.at(i, 1, 1), NONE);
            due("stale of record " + i, x.stale(i, 1, 1), NONE);
            due("lock of record " + i, x.lock(i, 1, 1), 0);
            due("history of record " + i, x.history(i, 1, 0), 0);
            due("record " + i, x.record(0), i);
            due("no value in it yet", x.at(i, 1, 1), NONE);
        }
    }

    private static void kinds() {
        VersionRows x = new VersionRows();
        due("kind -1", x.record(-1), 0);
        due("kind 0", x.record(0), 1);
        due("kind 1", x.record(1), 2);
        due("kind 2", x.record(2), 3);
        due("kind 3", x.record(3), 4);
        due("kind 4", x.record(4), 0);
        due("the least kind", x.record(Integer.MIN_VALUE), 0);
        due("the greatest kind", x.record(Integer.MAX_VALUE), 0);
        due("a kind of 8 bits and 0", x.record(256), 0);
        due("the next number", x.record(0), 5);
    }

    private static VersionRows withAllFields() {
        VersionRows x = withTwentyRecords();
        for (int i = 0; i < 160; i++) {
            // Field 0 takes no 1 in a record of kind 1, and so no value below 100.
            due("act on record " + (i / 8 + 1) + ", field " + i % 8, x.act(i / 8 + 1, i % 8, 100 + i, 1, 1), i + 1);
        }
        return x;
    }

    private static void fields() {
        VersionRows x = withAllFields();
        for (int i = 0; i < 160; i++) {
            due("value of record " + (i / 8 + 1) + ", field " + i % 8, x.at(i / 8 + 1, i % 8, 1), 100 + i);
        }
        VersionRows y = withAllFields();
        for (int i = 0; i < 160; i++) {
            due("history of record " + (i / 8 + 1) + ", field " + i % 8, y.history(i / 8 + 1, i % 8, 0), i + 1);
        }
        VersionRows z = withAllFields();
        for (int i = 0; i < 160; i++) {
            due("stale of record " + (i / 8 + 1) + ", field " + i % 8, z.stale(i / 8 + 1, 0, i % 8), 0);
        }
    }

    private static void fieldsBesideThem() {
        VersionRows x = withAllFields();
        int[] numbers = {Integer.MIN_VALUE, -8, -1, 8, 9, 15, 16, 256, 65536, Integer.MAX_VALUE};
        for (int record = 1; record <= 20; record += 19) {
            for (int n : numbers) {
                due("act on field " + n, x.act(record, n, 5, 1, 1), 0);
                due("at of field " + n, x.at(record, n, 1), NONE);
                due("stale of field " + n, x.stale(record, 0, n), NONE);
                due("history of field " + n, x.history(record, n, 0), 0);
            }
        }
        due("the next number", x.act(1, 7, 5, 1, 1), 161);
    }

    private static void actsAsTheyCome() {
        VersionRows x = withTwentyRecords();
        for (int i = 1; i <= 200; i++) {
            due("act " + i, x.act((i - 1) % 20 + 1, 1 + i % 7, i, 1, 1), i);
        }
        due("act 201", x.act(1, 1, 201, 1, 1), 0);
        for (int i = 200; i >= 1; i--) {
            due("act " + i + " is there", x.undo(i), 1);
        }
        due("an undone act is one of the 200", x.act(1, 1, 201, 1, 1), 0);
    }

    private static void actsBesideThem() {
        VersionRows x = withActs(200);
        int[] numbers = {Integer.MIN_VALUE, -200, -1, 0, 201, 202, 256 + 1, 65536 + 1, Integer.MAX_VALUE};
        for (int n : numbers) {
            due("undo " + n, x.undo(n), 0);
            due("lean of " + n, x.lean(n, 1), 0);
            due("lean on " + n, x.lean(200, n), 0);
            due("batch from " + n, x.batch(n, 200), 0);
            due("batch to " + n, x.batch(1, n), 0);
            due("batch of " + n, x.batch(n, n), 0);
        }
        due("act 200 leans", x.lean(200, 199), 1);
        due("act 1 is leaned on", x.lean(2, 1), 1);
        due("act 200 in a batch", x.batch(200, 200), 1);
        due("act 1 in a batch", x.batch(1, 1), 2);
        due("act 200 dropped", x.drop(1), 1);
    }

    private static void values() {
        int[] values = {0, 1, 127, 128, 255, 256, 32768, 65536, 2147483646, 2147483647};
        VersionRows x = withRecords(0);
        VersionRows marks = withRecords(0);
        for (int i = 0; i < values.length; i++) {
            due("act of value " + values[i], x.act(1, 1, values[i], 1, i), i + 1);
            due("at of value " + values[i], x.at(1, 1, i), values[i]);
            due("the mark " + values[i], marks.act(1, 0, values[i], 1, i), i + 1);
            due("at of the mark " + values[i], marks.at(1, 0, i), values[i]);
        }
        due("the first value back", x.act(1, 1, 0, 1, 99), values.length + 1);
        due("it is as it was", x.stale(1, 0, 1), 2);
        due("it is not the greatest", x.stale(1, values.length - 1, 1), 0);
    }

    private static void valuesBesideThem() {
        VersionRows x = withRecords(0);
        due("value 5", x.act(1, 1, 5, 1, 1), 1);
        long[] none = {-1, -5, LEAST, LEAST + 5, -2147483648L, 2147483648L, 4294967295L, 4294967296L, 4294967296L + 5,
            GREATEST};
        for (long v : none) {
            due("value " + v, x.act(1, 1, v, 1, 1), 0);
            due("value " + v + " of the mark", x.act(1, 0, v, 1, 1), 0);
        }
        dueHistory(x, 1, 1, 1);
        dueHistory(x, 1, 0);
        due("the next number", x.act(1, 1, 6, 1, 1), 2);
    }

    private static void validDays() {
        long[] days = {GREATEST, LEAST, 0, -1, LEAST + 1, 1, GREATEST - 1, 1L << 32, -(1L << 32)};
        VersionRows x = withRecords(0);
        for (int i = 0; i < days.length; i++) {
            due("act of day " + days[i], x.act(1, 1, i + 1, days[i], 7), i + 1);
        }
        for (int i = 0; i < days.length; i++) {
            due("the same act of day " + days[i], x.act(1, 1, i + 1, days[i], 7), i + 1);
        }
        dueHistory(x, 1, 1, 2, 5, 9, 4, 3, 6, 8, 7, 1);
        int[] fromTheLast = {1, 7, 8, 6, 3, 4, 9, 5, 2};
        for (int act : fromTheLast) {
            due("the last day's value", x.at(1, 1, 7), act);
            due("undo it", x.undo(act), 1);
        }
    }

    private static void knownMoments() {
        long[] moments = {GREATEST, LEAST, 0, -1, LEAST + 1, 1, GREATEST - 1, 1L << 32, -(1L << 32)};
        VersionRows x = withRecords(0);
        for (int i = 0; i < moments.length; i++) {
            due("act known at " + moments[i], x.act(1, 1, i + 1, 7, moments[i]), i + 1);
        }
        for (int i = 0; i < moments.length; i++) {
            due("the same act known at " + moments[i], x.act(1, 1, i + 1, 7, moments[i]), i + 1);
            due("the value known at " + moments[i], x.at(1, 1, moments[i]), i + 1);
            due("stale at " + moments[i], x.stale(1, moments[i], 1), i == 0 ? 1 : 0);
        }
        dueHistory(x, 1, 1, 2, 5, 9, 4, 3, 6, 8, 7, 1);
        dueNow(x, 1, GREATEST);
    }

    private static void undoneActs() {
        VersionRows x = withActs(3);
        due("a new act COUNTS", x.at(1, 1, 3), 3);
        due("undo it", x.undo(3), 1);
        due("it does not COUNT", x.at(1, 1, 3), 2);
        due("it stays UNDONE", x.undo(3), 0);
        due("the others COUNT", x.at(1, 1, 1), 1);
        dueHistory(x, 1, 1, 1, 2, 3);
    }

    private static void orderByKnown() {
        VersionRows x = withRecords(0);
        due("known at 2", x.act(1, 1, 10, 1, 2), 1);
        due("known at 1, of a later day", x.act(1, 1, 30, 9, 1), 2);
        due("known at 3, of an earlier day", x.act(1, 1, 20, -9, 3), 3);
        dueHistory(x, 1, 1, 2, 1, 3);
        due("the last one", x.at(1, 1, 9), 20);
    }

    private static void orderByValid() {
        VersionRows x = withRecords(0);
        due("day 2", x.act(1, 1, 10, 2, 7), 1);
        due("day 1", x.act(1, 1, 30, 1, 7), 2);
        due("day 3", x.act(1, 1, 20, 3, 7), 3);
        due("day 2 again", x.act(1, 1, 5, 2, 7), 4);
        dueHistory(x, 1, 1, 2, 1, 4, 3);
        due("the last one", x.at(1, 1, 7), 20);
    }

    private static void orderByNumber() {
        VersionRows x = withRecords(0);
        due("value 20", x.act(1, 1, 20, 1, 7), 1);
        due("value 10", x.act(1, 1, 10, 1, 7), 2);
        due("value 30", x.act(1, 1, 30, 1, 7), 3);
        due("value 5", x.act(1, 1, 5, 1, 7), 4);
        dueHistory(x, 1, 1, 1, 2, 3, 4);
        due("the last one", x.at(1, 1, 7), 5);
        due("undo the first", x.undo(1), 1);
        due("value 20 as a new act", x.act(1, 1, 20, 1, 7), 5);
        dueHistory(x, 1, 1, 1, 2, 3, 4, 5);
        due("the last one is the new one", x.at(1, 1, 7), 20);
    }

    private static void nowIsTheGreatest() {
        VersionRows x = withRecords(0);
        due("known at -10", x.act(1, 1, 1, 1, -10), 1);
        dueNow(x, 1, -10);
        due("known at 10", x.act(1, 1, 1, 1, 10), 2);
        dueNow(x, 1, 10);
        due("known at 5", x.act(1, 1, 1, 99, 5), 3);
        dueNow(x, 1, 10);
        due("known at 10 again", x.act(1, 1, 2, 1, 10), 4);
        dueNow(x, 1, 10);
        due("known at 2^32", x.act(1, 1, 2, 1, 1L << 32), 5);
        dueNow(x, 1, 1L << 32);
    }

    private static void nowOfAllRecords() {
        VersionRows x = withRecords(0, 1, 3);
        due("known at 10 in record 1", x.act(1, 1, 1, 1, 10), 1);
        dueNow(x, 2, 10);
        due("known at 20 in record 3", x.act(3, 7, 1, 1, 20), 2);
        dueNow(x, 1, 20);
        dueNow(x, 2, 20);
        dueNow(x, 3, 20);
    }

    private static void nowOfUndoneActs() {
        VersionRows x = withRecords(0);
        due("known at 10", x.act(1, 1, 1, 1, 10), 1);
        due("known at 20", x.act(1, 1, 1, 1, 20), 2);
        due("undo the later one", x.undo(2), 1);
        dueNow(x, 1, 20);
        due("a batch of both", x.batch(1, 2), 1);
        due("drop it", x.drop(1), 1);
        dueNow(x, 1, 20);
        due("an act behind them", x.act(1, 1, 1, 1, 15), 3);
        dueNow(x, 1, 20);
    }

    private static void nowWithoutAnAct() {
        VersionRows x = withRecords(0, 1);
        dueNow(x, 1, LEAST);
        dueNow(x, 2, LEAST);
        due("an act that is refused", x.act(2, 0, 1, 1, 50), 0);
        dueNow(x, 1, LEAST);
        due("an act at the least long", x.act(1, 1, 1, 1, LEAST), 1);
        dueNow(x, 1, LEAST);
        due("an act behind it", x.act(1, 1, 1, 1, LEAST + 1), 2);
        dueNow(x, 1, LEAST + 1);
    }

    private static void notAboveTheMoment() {
        VersionRows x = withRecords(0);
        due("known at the least long + 1", x.act(1, 1, 5, 1, LEAST + 1), 1);
        due("known at 10", x.act(1, 1, 6, 1, 10), 2);
        due("known at the greatest long", x.act(1, 1, 7, 1, GREATEST), 3);
        due("below the first", x.at(1, 1, LEAST), NONE);
        due("at the first", x.at(1, 1, LEAST + 1), 5);
        due("below the second", x.at(1, 1, 9), 5);
        due("at the second", x.at(1, 1, 10), 6);
        due("above the second", x.at(1, 1, 11), 6);
        due("below the third", x.at(1, 1, GREATEST - 1), 6);
        due("at the third", x.at(1, 1, GREATEST), 7);
        due("known at the least long", x.act(1, 1, 4, 1, LEAST), 4);
        due("at the least long", x.at(1, 1, LEAST), 4);
        due("a VALID day is not a moment", x.act(1, 2, 4, 100, 10), 5);
        due("below its day", x.at(1, 2, 10), 4);
    }

    private static void valueOfOneThatCounts() {
        VersionRows x = withActs(3);
        due("undo the second", x.undo(2), 1);
        due("at the second", x.at(1, 1, 2), 1);
        due("at the third", x.at(1, 1, 3), 3);
        due("undo the first", x.undo(1), 1);
        due("at the second again", x.at(1, 1, 2), NONE);
        due("undo the third", x.undo(3), 1);
        due("at the greatest long", x.at(1, 1, GREATEST), NONE);
    }

    private static void deletedMark() {
        VersionRows x = withRecords(0, 2, 3);
        for (int record = 1; record <= 3; record++) {
            due("deleted", x.act(record, 0, 1, 1, 10), 2 * record - 1);
            due("the mark", x.at(record, 0, 10), 1);
            due("not deleted", x.act(record, 0, 0, 1, 20), 2 * record);
            due("the mark then", x.at(record, 0, 20), 0);
        }
        due("a deleted record takes acts", x.act(1, 5, 1, 1, 10), 7);
    }

    private static void kindThatCantBeDeleted() {
        VersionRows x = withRecords(1, 0, 1);
        due("deleted", x.act(1, 0, 1, 1, 1), 0);
        due("the other record of the kind", x.act(3, 0, 1, 1, 1), 0);
        due("a record of another kind between", x.act(2, 0, 1, 1, 1), 1);
        due("not deleted", x.act(1, 0, 0, 1, 1), 2);
        due("deleted later", x.act(1, 0, 1, 1, 2), 0);
        due("deleted before", x.act(1, 0, 1, 1, 0), 0);
        due("a mark above 1", x.act(1, 0, 2, 1, 3), 3);
        due("the greatest mark", x.act(1, 0, 2147483647, 1, 4), 4);
        for (int field = 1; field <= 7; field++) {
            due("1 in field " + field, x.act(1, field, 1, 1, 1), 4 + field);
        }
        due("the mark", x.at(1, 0, 1), 0);
    }

    private static void lockedWhileNowIsBelow() {
        VersionRows x = withRecords(0, 0);
        due("NOW is 8", x.act(2, 1, 1, 1, 8), 1);
        due("lock until 10", x.lock(1, 1, 10), 1);
        due("NOW is 8: an act", x.act(1, 1, 1, 1, 1), 0);
        due("NOW is 8: a lock", x.lock(1, 2, 10), 0);
        due("NOW is 9", x.act(2, 1, 1, 1, 9), 2);
        due("NOW is 9: an act", x.act(1, 1, 1, 1, 1), 0);
        due("NOW is 9: a lock", x.lock(1, 2, 10), 0);
        due("NOW is 10", x.act(2, 1, 1, 1, 10), 3);
        due("NOW is 10: an act", x.act(1, 1, 1, 1, 1), 4);
        due("NOW is 10: a lock", x.lock(1, 2, 11), 1);
        due("until 11 now", x.lock(1, 1, 11), 0);
        due("NOW is 12", x.act(2, 1, 1, 1, 12), 5);
        due("NOW is 12: a lock", x.lock(1, 1, 11), 1);
        due("NOW is 12: an act", x.act(1, 1, 1, 1, 2), 6);
    }

    private static void lockedUntilAnyLong() {
        VersionRows x = withRecords(0, 0);
        due("NOW is 0", x.act(2, 1, 1, 1, 0), 1);
        long[] over = {LEAST, LEAST + 1, -(1L << 32), -1, 0};
        for (int i = 0; i < over.length; i++) {
            due("lock until " + over[i], x.lock(1, 1, over[i]), 1);
            due("an act", x.act(1, 1, i, 1, 0), i + 2);
        }
        long[] ahead = {1, 1L << 32, GREATEST - 1, GREATEST};
        for (long until : ahead) {
            due("lock until " + until, x.lock(1, 1, until), 1);
            due("an act", x.act(1, 1, 99, 1, 0), 0);
            due("somebody else", x.lock(1, 2, until), 0);
        }
        due("NOW is the greatest long - 1", x.act(2, 1, 1, 1, GREATEST - 1), 7);
        due("locked still", x.act(1, 1, 99, 1, 0), 0);
        due("NOW is the greatest long", x.act(2, 1, 1, 1, GREATEST), 8);
        due("not locked", x.act(1, 1, 99, 1, 0), 9);
    }

    private static void lockedByAnybody() {
        int[] people = {Integer.MIN_VALUE, -1, 0, 1, 256, 65536, Integer.MAX_VALUE};
        for (int who : people) {
            VersionRows x = withRecords(0);
            due("lock by " + who, x.lock(1, who, 10), 1);
            for (int other : people) {
                due("lock by " + other, x.lock(1, other, 10), other == who ? 1 : 0);
            }
            due("an act", x.act(1, 1, 1, 1, 1), 0);
        }
    }

    private static void leanOnOnesBefore() {
        VersionRows x = withActs(200);
        int[] numbers = {2, 3, 33, 64, 65, 128, 129, 192, 193, 199, 200};
        for (int act : numbers) {
            due(act + " on the one before", x.lean(act, act - 1), 1);
            due(act + " on itself", x.lean(act, act), 0);
            due(act + " on the one behind", x.lean(act, act + 1), 0);
        }
        due("1 on itself", x.lean(1, 1), 0);
        due("1 on 2", x.lean(1, 2), 0);
        due("1 on 0", x.lean(1, 0), 0);
        due("1 on 200", x.lean(1, 200), 0);
        due("200 on 1", x.lean(200, 1), 1);
        due("before by number, not by moment", x.lean(198, 5), 1);
    }

    private static void leanOnMany() {
        VersionRows one = withActs(200);
        for (int other = 1; other <= 199; other++) {
            due("200 on " + other, one.lean(200, other), 1);
        }
        for (int other = 1; other <= 100; other++) {
            due("undo " + other, one.undo(other), 0);
        }
        VersionRows many = withActs(150);
        for (int act = 2; act <= 150; act++) {
            due(act + " on 1", many.lean(act, 1), 1);
        }
        for (int act = 150; act >= 2; act--) {
            due("undo " + act, many.undo(act), 1);
            if (act % 10 == 0) {
                due("undo 1, held by " + (act - 1), many.undo(1), 0);
            }
        }
        due("undo 1", many.undo(1), 1);
    }

    private static void batchesAsTheyCome() {
        VersionRows x = withActs(62);
        for (int i = 1; i <= 30; i++) {
            due("batch " + i, x.batch(2 * i - 1, 2 * i), i);
        }
        due("batch 31", x.batch(61, 62), 0);
        for (int i = 30; i >= 1; i--) {
            due("drop " + i, x.drop(i), 2);
        }
        due("a dropped batch is one of the 30", x.batch(61, 62), 0);
    }

    private static void batchesBesideThem() {
        VersionRows x = withActs(62);
        due("drop 1 of none", x.drop(1), 0);
        due("drop 0 of none", x.drop(0), 0);
        for (int i = 1; i <= 30; i++) {
            due("batch " + i, x.batch(2 * i - 1, 2 * i), i);
            due("the next one is not there yet", x.drop(i + 1), 0);
        }
        int[] numbers = {Integer.MIN_VALUE, -30, -1, 0, 31, 32, 256 + 1, 65536 + 1, Integer.MAX_VALUE};
        for (int n : numbers) {
            due("drop " + n, x.drop(n), 0);
        }
        due("acts in no batch COUNT", x.at(1, 1, 62), 62);
        due("acts of batch 30 COUNT", x.at(1, 1, 60), 60);
        due("acts of batch 1 COUNT", x.at(1, 1, 1), 1);
    }

    private static void batchesOfAnyLength() {
        VersionRows x = withActs(200);
        due("all", x.batch(1, 200), 1);
        due("drop them", x.drop(1), 200);
        due("none is left", x.at(1, 1, 200), NONE);
        VersionRows y = withActs(200);
        due("the first", y.batch(1, 1), 1);
        due("the last", y.batch(200, 200), 2);
        due("all between", y.batch(2, 199), 3);
        due("drop the last", y.drop(2), 1);
        due("the one before it", y.at(1, 1, 200), 199);
        due("drop all between", y.drop(3), 198);
        due("the first is left", y.at(1, 1, 200), 1);
        due("drop the first", y.drop(1), 1);
    }

    private static void oneBatchAtMost() {
        VersionRows x = withActs(9);
        due("3 to 6", x.batch(3, 6), 1);
        due("the same", x.batch(3, 6), 0);
        due("its first, at the end", x.batch(1, 3), 0);
        due("its last, at the start", x.batch(6, 9), 0);
        due("within it", x.batch(4, 5), 0);
        due("around it", x.batch(2, 7), 0);
        due("just ahead of it", x.batch(1, 2), 2);
        due("just behind it", x.batch(7, 9), 3);
        due("drop it", x.drop(1), 4);
        due("its acts are in it still", x.batch(4, 4), 0);
    }

    private static void duePair(VersionRows x, int lower, int higher) {
        due("the lower one", x.conflict(0, 0), lower);
        due("the higher one", x.conflict(0, 1), higher);
        due("the next pair", x.conflict(1, 0), NONE);
    }

    private static void conflictOfTwoThatCount() {
        for (int undone = 1; undone <= 2; undone++) {
            VersionRows x = withRecords(0);
            due("value 1", x.act(1, 1, 1, 1, 7), 1);
            due("value 2", x.act(1, 1, 2, 1, 7), 2);
            duePair(x, 1, 2);
            due("undo " + undone, x.undo(undone), 1);
            due("no pair", x.conflict(0, 0), NONE);
            due("value 3", x.act(1, 1, 3, 1, 7), 3);
            duePair(x, 3 - undone, 3);
        }
        VersionRows y = withRecords(0);
        y.act(1, 1, 1, 1, 7);
        y.act(1, 1, 2, 1, 7);
        due("undo both", y.undo(1) + y.undo(2), 2);
        due("no pair of two undone ones", y.conflict(0, 0), NONE);
    }

    private static void conflictOfOneField() {
        VersionRows x = withRecords(0);
        for (int field = 0; field <= 7; field++) {
            due("value " + field, x.act(1, field, field, 1, 7), field + 1);
        }
        due("no pair", x.conflict(0, 0), NONE);
        due("another value of field 7", x.act(1, 7, 6, 1, 7), 9);
        duePair(x, 8, 9);
    }

    private static void conflictOfOneRecord() {
        VersionRows x = withRecords(0, 1, 2);
        for (int record = 1; record <= 3; record++) {
            due("value " + record, x.act(record, 4, record, 1, 7), record);
        }
        due("no pair", x.conflict(0, 0), NONE);
        due("another value of record 3", x.act(3, 4, 2, 1, 7), 4);
        duePair(x, 3, 4);
    }

    private static void conflictOfOneMoment() {
        VersionRows x = withRecords(0);
        long[] moments = {LEAST, LEAST + 1, 6, 8, 7 + (1L << 32), GREATEST};
        for (int i = 0; i < moments.length; i++) {
            due("known at " + moments[i], x.act(1, 1, i, 5, moments[i]), i + 1);
        }
        due("known at 7", x.act(1, 1, 90, 5, 7), 7);
        due("no pair", x.conflict(0, 0), NONE);
        due("another value at 7, of another day", x.act(1, 1, 91, 6, 7), 8);
        duePair(x, 7, 8);
    }

    private static void conflictOfTwoValues() {
        VersionRows x = withRecords(0);
        due("value 0", x.act(1, 1, 0, 1, 7), 1);
        due("value 0 of another day", x.act(1, 1, 0, 2, 7), 2);
        due("no pair", x.conflict(0, 0), NONE);
        due("the greatest value", x.act(1, 2, 2147483647, 1, 7), 3);
        due("the greatest value of another day", x.act(1, 2, 2147483647, 2, 7), 4);
        due("still no pair", x.conflict(0, 0), NONE);
        due("the one below the greatest", x.act(1, 2, 2147483646, 1, 7), 5);
        due("the lower one", x.conflict(0, 0), 3);
        due("its higher one", x.conflict(0, 1), 5);
        due("the next lower one", x.conflict(1, 0), 4);
        due("its higher one", x.conflict(1, 1), 5);
        due("no third pair", x.conflict(2, 0), NONE);
    }
}
