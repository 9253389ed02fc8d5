/** Each promise of the document: ordinary inputs, the edges that it names, and wrong inputs. */
public final class PromiseTest {
    private static final int[] NO_NUMBERS = {Integer.MIN_VALUE, -1, 0, 201, Integer.MAX_VALUE};
    private static final int PROMISES = 12;
    private static final int[] answers = new int[PROMISES + 1];
    private static int wrong = 0;

    public static void main(String[] args) {
        newObject();
        record();
        act();
        actThatIsTheSame();
        actThatDeletes();
        actOnALockedRecord();
        at();
        atTheEndsOfTime();
        stale();
        undo();
        lean();
        lock();
        lockAndNow();
        batch();
        drop();
        dropAndLeans();
        conflict();
        history();
        wrongArguments();
        fullObject();
        everyPromise();
        System.out.println(wrong == 0 ? "PromiseTest: all answers are as due" : "PromiseTest: " + wrong + " wrong");
        if (wrong != 0) {
            System.exit(1);
        }
    }

    private static void due(String what, long got, long want) {
        answers[Integer.parseInt(what.substring(1, what.indexOf(' ')))]++;
        if (got != want) {
            wrong++;
            System.out.println(what + ": answered " + got + ", due is " + want);
        }
    }

    private static void everyPromise() {
        for (int promise = 1; promise <= PROMISES; promise++) {
            System.out.println("P" + promise + ": " + answers[promise] + " answers looked at");
            if (answers[promise] == 0) {
                wrong++;
            }
        }
    }

    private static VersionRows withRecords(int... kinds) {
        VersionRows x = new VersionRows();
        for (int i = 0; i < kinds.length; i++) {
            due("P2 record of kind " + kinds[i], x.record(kinds[i]), i + 1);
        }
        return x;
    }

    private static void newObject() {
        VersionRows x = new VersionRows();
        due("P1 no record: at", x.at(1, 1, 0), VersionRows.NONE);
        due("P1 no record: stale", x.stale(1, 0, 1), VersionRows.NONE);
        due("P1 no record: act", x.act(1, 1, 1, 1, 1), 0);
        due("P1 no record: lock", x.lock(1, 1, 1), 0);
        due("P1 no act: undo", x.undo(1), 0);
        due("P1 no act: lean", x.lean(2, 1), 0);
        due("P1 no act: batch", x.batch(1, 1), 0);
        due("P1 no batch: drop", x.drop(1), 0);
        due("P1 no act: conflict", x.conflict(0, 0), VersionRows.NONE);
        due("P1 no act: history", x.history(1, 1, 0), 0);
        due("P1 first record", x.record(3), 1);
        due("P1 first act", x.act(1, 7, 0, 0, 0), 1);
        due("P1 another object has none of it", new VersionRows().at(1, 7, 0), VersionRows.NONE);
    }

    private static void record() {
        VersionRows x = new VersionRows();
        due("P2 kind -1", x.record(-1), 0);
        due("P2 kind 4", x.record(4), 0);
        due("P2 least kind", x.record(Integer.MIN_VALUE), 0);
        due("P2 greatest kind", x.record(Integer.MAX_VALUE), 0);
        for (int i = 1; i <= 20; i++) {
            due("P2 record", x.record(i % 4), i);
        }
        due("P2 the 21st record", x.record(0), 0);
        due("P2 a wrong kind behind 20", x.record(9), 0);
        due("P2 the 20th is there", x.act(20, 0, 1, 1, 1), 1);
        due("P2 the 21st is not", x.act(21, 0, 1, 1, 1), 0);
        VersionRows y = withRecords(0);
        due("P2 an act that is known early", y.act(1, 1, 1, 1, Long.MIN_VALUE), 1);
        due("P2 a later record", y.record(0), 2);
        due("P2 it is not locked", y.act(2, 1, 1, 1, Long.MIN_VALUE), 2);
    }

    private static void act() {
        VersionRows x = withRecords(0);
        due("P3 value 0", x.act(1, 0, 0, 1, 1), 1);
        due("P3 greatest value", x.act(1, 7, 2147483647L, 1, 1), 2);
        due("P3 greatest value is kept", x.at(1, 7, 1), 2147483647L);
        due("P3 value 2^31", x.act(1, 1, 2147483648L, 1, 1), 0);
        due("P3 value 2^32", x.act(1, 1, 4294967296L, 1, 1), 0);
        due("P3 value -1", x.act(1, 1, -1, 1, 1), 0);
        due("P3 least value", x.act(1, 1, Long.MIN_VALUE, 1, 1), 0);
        due("P3 greatest long value", x.act(1, 1, Long.MAX_VALUE, 1, 1), 0);
        due("P3 field 8", x.act(1, 8, 1, 1, 1), 0);
        due("P3 field -1", x.act(1, -1, 1, 1, 1), 0);
        due("P3 record 0", x.act(0, 1, 1, 1, 1), 0);
        due("P3 record 2", x.act(2, 1, 1, 1, 1), 0);
        due("P3 nothing happened", x.history(1, 1, 0), 0);
        due("P3 the next number", x.act(1, 1, 1, 1, 1), 3);
    }

    private static void actThatIsTheSame() {
        VersionRows x = withRecords(0, 0);
        due("P3 an act", x.act(1, 1, 5, 10, 100), 1);
        due("P3 the same", x.act(1, 1, 5, 10, 100), 1);
        due("P3 another record", x.act(2, 1, 5, 10, 100), 2);
        due("P3 another field", x.act(1, 2, 5, 10, 100), 3);
        due("P3 another value", x.act(1, 1, 6, 10, 100), 4);
        due("P3 another valid day", x.act(1, 1, 5, 11, 100), 5);
        due("P3 another known moment", x.act(1, 1, 5, 10, 101), 6);
        due("P3 the same still", x.act(1, 1, 5, 10, 100), 1);
        due("P3 only one in history", x.history(1, 1, 4), 0);
        due("P3 undo it", x.undo(1), 1);
        due("P3 an undone one is not the same", x.act(1, 1, 5, 10, 100), 7);
        due("P3 the new one is", x.act(1, 1, 5, 10, 100), 7);
        due("P3 a day of 64 bits", x.act(1, 5, 1, 1L << 40, 7), 8);
        due("P3 another day of 64 bits", x.act(1, 5, 1, 1L << 41, 7), 9);
        due("P3 a moment of 64 bits", x.act(1, 5, 1, 1, 1L << 40), 10);
        due("P3 another moment of 64 bits", x.act(1, 5, 1, 1, 1L << 41), 11);
    }

    private static void actThatDeletes() {
        VersionRows x = withRecords(0, 1, 2, 3);
        due("P3 delete kind 0", x.act(1, 0, 1, 1, 1), 1);
        due("P3 delete kind 1", x.act(2, 0, 1, 1, 1), 0);
        due("P3 delete kind 2", x.act(3, 0, 1, 1, 1), 2);
        due("P3 delete kind 3", x.act(4, 0, 1, 1, 1), 3);
        due("P3 kind 1, not deleted", x.act(2, 0, 0, 1, 5), 4);
        due("P3 kind 1, a mark that is not 1", x.act(2, 0, 2, 1, 6), 5);
        due("P3 kind 1, 1 in another field", x.act(2, 1, 1, 1, 1), 6);
        due("P3 kind 1, deleted before what is known", x.act(2, 0, 1, 1, 2), 0);
        due("P3 kind 1, the mark", x.at(2, 0, 5), 0);
        due("P3 a deleted record takes acts", x.act(1, 1, 1, 1, 1), 7);
        due("P3 and is not deleted again", x.act(1, 0, 0, 1, 2), 8);
        due("P3 its mark before", x.at(1, 0, 1), 1);
        due("P3 its mark after", x.at(1, 0, 2), 0);
    }

    private static void actOnALockedRecord() {
        VersionRows x = withRecords(0, 0);
        due("P3 an act", x.act(1, 1, 5, 10, 100), 1);
        due("P3 lock", x.lock(1, 7, 101), 1);
        due("P3 a locked record", x.act(1, 1, 6, 10, 100), 0);
        due("P3 a locked record, an act that would end the lock", x.act(1, 1, 6, 10, 500), 0);
        due("P3 locked goes ahead of the same act", x.act(1, 1, 5, 10, 100), 0);
        due("P3 the other record is free", x.act(2, 1, 5, 10, 101), 2);
        due("P3 the lock has ended: the same act", x.act(1, 1, 5, 10, 100), 1);
        due("P3 the lock has ended: a new act", x.act(1, 1, 6, 10, 100), 3);
    }

    private static void at() {
        VersionRows x = withRecords(0, 0);
        due("P4 none yet", x.at(1, 2, 100), VersionRows.NONE);
        x.act(1, 2, 5, 10, 100);
        x.act(1, 2, 6, 9, 100);
        x.act(1, 2, 7, 1, 90);
        x.act(1, 2, 8, 10, 100);
        due("P4 by number in the same day", x.at(1, 2, 100), 8);
        due("P4 undo 4", x.undo(4), 1);
        due("P4 by valid day in the same moment", x.at(1, 2, 100), 5);
        due("P4 undo 1", x.undo(1), 1);
        due("P4 the one before", x.at(1, 2, 100), 6);
        due("P4 just below the moment", x.at(1, 2, 99), 7);
        due("P4 at the moment itself", x.at(1, 2, 90), 7);
        due("P4 ahead of all", x.at(1, 2, 89), VersionRows.NONE);
        due("P4 another field", x.at(1, 3, 100), VersionRows.NONE);
        due("P4 another record", x.at(2, 2, 100), VersionRows.NONE);
        due("P4 field 8", x.at(1, 8, 100), VersionRows.NONE);
        due("P4 field -1", x.at(1, -1, 100), VersionRows.NONE);
        due("P4 record 3", x.at(3, 2, 100), VersionRows.NONE);
        due("P4 record 0", x.at(0, 2, 100), VersionRows.NONE);
        due("P4 value 0 is a value", x.act(1, 2, 0, 1, 200), 5);
        due("P4 value 0", x.at(1, 2, 200), 0);
    }

    private static void atTheEndsOfTime() {
        VersionRows x = withRecords(0);
        due("P4 known last", x.act(1, 1, 3, Long.MIN_VALUE, Long.MAX_VALUE), 1);
        due("P4 known first", x.act(1, 1, 4, Long.MAX_VALUE, Long.MIN_VALUE), 2);
        due("P4 known at 0", x.act(1, 1, 5, 0, 0), 3);
        due("P4 at the least moment", x.at(1, 1, Long.MIN_VALUE), 4);
        due("P4 below 0", x.at(1, 1, -1), 4);
        due("P4 just below the greatest moment", x.at(1, 1, Long.MAX_VALUE - 1), 5);
        due("P4 at the greatest moment", x.at(1, 1, Long.MAX_VALUE), 3);
        due("P4 valid days far apart", x.act(1, 1, 6, Long.MAX_VALUE, Long.MAX_VALUE), 4);
        due("P4 the later valid day", x.at(1, 1, Long.MAX_VALUE), 6);
    }

    private static void stale() {
        VersionRows x = withRecords(0, 0);
        due("P5 no act", x.stale(1, Long.MIN_VALUE, 1), 1);
        x.act(1, 1, 5, 1, 10);
        due("P5 at the moment itself", x.stale(1, 10, 1), 1);
        due("P5 no value then", x.stale(1, 9, 1), 0);
        x.act(1, 1, 6, 1, 20);
        due("P5 changed", x.stale(1, 10, 1), 0);
        due("P5 changed, just below", x.stale(1, 19, 1), 0);
        due("P5 not changed since", x.stale(1, 20, 1), 1);
        x.act(1, 1, 5, 1, 30);
        due("P5 changed and changed back", x.stale(1, 10, 1), 2);
        due("P5 another value then", x.stale(1, 20, 1), 0);
        x.act(1, 1, 9, 2, 30);
        due("P5 the last one by its valid day", x.stale(1, 10, 1), 0);
        due("P5 undo the last one", x.undo(4), 1);
        due("P5 an undone one leaves nothing", x.stale(1, 10, 1), 2);
        due("P5 undo all above", x.undo(3) + x.undo(2), 2);
        due("P5 an undone one is not above", x.stale(1, 10, 1), 1);
        due("P5 undo the first", x.undo(1), 1);
        due("P5 all are undone", x.stale(1, 0, 1), 1);
        x.act(1, 2, 1, 1, 50);
        x.act(2, 1, 1, 1, 50);
        due("P5 other fields and records are others", x.stale(1, 10, 1), 1);
        due("P5 field 8", x.stale(1, 10, 8), VersionRows.NONE);
        due("P5 field -1", x.stale(1, 10, -1), VersionRows.NONE);
        due("P5 record 3", x.stale(3, 10, 1), VersionRows.NONE);
        due("P5 record 0", x.stale(0, 10, 1), VersionRows.NONE);
        x.act(2, 2, 0, 1, 50);
        due("P5 value 0 is not no value", x.stale(2, 49, 2), 0);
    }

    private static void undo() {
        VersionRows x = withRecords(0);
        for (int i = 1; i <= 4; i++) {
            due("P6 act", x.act(1, 1, i, 1, i), i);
        }
        due("P6 undo 0", x.undo(0), 0);
        due("P6 undo 5", x.undo(5), 0);
        due("P6 undo -1", x.undo(-1), 0);
        due("P6 undo one", x.undo(4), 1);
        due("P6 the value before", x.at(1, 1, 9), 3);
        due("P6 undo it again", x.undo(4), 0);
        due("P6 lean", x.lean(3, 1) + x.lean(3, 2), 2);
        due("P6 leaned on", x.undo(1), 0);
        due("P6 it counts still", x.at(1, 1, 1), 1);
        due("P6 the one that leans", x.undo(3), 1);
        due("P6 no more leaned on", x.undo(1), 1);
        due("P6 the other one of these", x.undo(2), 1);
        due("P6 undone ones are in history", x.history(1, 1, 3), 4);
        VersionRows y = withRecords(0);
        for (int i = 1; i <= 3; i++) {
            y.act(1, 1, i, 1, i);
        }
        due("P6 a row of leans", y.lean(3, 2) + y.lean(2, 1), 2);
        due("P6 the middle counts", y.undo(1), 0);
        due("P6 undo from the end", y.undo(3) + y.undo(2) + y.undo(1), 3);
        VersionRows z = withRecords(0);
        z.act(1, 1, 1, 1, 1);
        z.lock(1, 1, 100);
        due("P6 a lock does not stop it", z.undo(1), 1);
    }

    private static void lean() {
        VersionRows x = withRecords(0);
        for (int i = 1; i <= 130; i++) {
            due("P7 act", x.act(1, 1, i, 1, i), i);
        }
        due("P7 lean", x.lean(2, 1), 1);
        due("P7 again", x.lean(2, 1), 0);
        due("P7 on itself", x.lean(2, 2), 0);
        due("P7 on a later one", x.lean(2, 3), 0);
        due("P7 on 0", x.lean(2, 0), 0);
        due("P7 on one that is not there", x.lean(2, 131), 0);
        due("P7 of one that is not there", x.lean(131, 1), 0);
        due("P7 of 0", x.lean(0, 1), 0);
        due("P7 of 0 on a number below", x.lean(0, -1), 0);
        due("P7 through another one", x.lean(3, 2), 1);
        due("P7 that does not make it lean on the first", x.lean(3, 1), 1);
        due("P7 numbers 32 apart", x.lean(120, 2) + x.lean(120, 34) + x.lean(120, 66) + x.lean(120, 98), 4);
        due("P7 numbers 64 apart", x.lean(130, 1) + x.lean(130, 65) + x.lean(130, 129), 3);
        due("P7 again, 64 apart", x.lean(130, 1) + x.lean(130, 65) + x.lean(130, 129), 0);
        due("P7 neighbours", x.lean(130, 64) + x.lean(130, 128) + x.lean(130, 63), 3);
        due("P7 undo 50", x.undo(50), 1);
        due("P7 an undone act is there to lean on", x.lean(51, 50), 1);
        due("P7 an undone act may lean", x.lean(50, 49), 1);
        due("P7 but it holds nothing", x.undo(49), 1);
        due("P7 leaned on by 130", x.undo(65), 0);
    }

    private static void lock() {
        VersionRows x = withRecords(0, 0);
        due("P8 record 0", x.lock(0, 1, 10), 0);
        due("P8 record 3", x.lock(3, 1, 10), 0);
        due("P8 record -1", x.lock(-1, 1, 10), 0);
        due("P8 somebody 0 on a new record", x.lock(1, 0, 10), 1);
        due("P8 somebody else", x.lock(1, 5, 20), 0);
        due("P8 it did nothing", x.lock(1, 0, 20), 1);
        due("P8 somebody below 0 on the other record", x.lock(2, -7, 10), 1);
        due("P8 somebody else there", x.lock(2, 0, 10), 0);
        due("P8 in place of what they had", x.lock(2, -7, Long.MIN_VALUE), 1);
        due("P8 so it is not locked", x.act(2, 1, 1, 1, 1), 1);
        due("P8 and free for somebody else", x.lock(2, 9, 5), 1);
        due("P8 a lock that was over at once", x.lock(2, 9, 1), 1);
        due("P8 lets others in", x.lock(2, 8, 1), 1);
        due("P8 as does this one", x.lock(2, 9, 2), 1);
        due("P8 but not this one", x.lock(2, 8, 2), 0);
    }

    private static void lockAndNow() {
        VersionRows x = withRecords(0, 0);
        due("P8 the least moment locks nobody out", x.lock(1, 1, Long.MIN_VALUE) + x.lock(1, 2, Long.MIN_VALUE), 2);
        due("P8 the one behind it does, without an act", x.lock(1, 1, Long.MIN_VALUE + 1), 1);
        due("P8 locked", x.lock(1, 2, 0), 0);
        due("P8 an act at the least moment", x.act(2, 1, 1, 1, Long.MIN_VALUE), 1);
        due("P8 locked still", x.lock(1, 2, 0), 0);
        due("P8 an act behind it", x.act(2, 1, 1, 1, 99), 2);
        due("P8 an earlier act does not turn NOW back", x.act(2, 1, 1, 1, 5), 3);
        due("P8 until NOW is over", x.lock(1, 2, 99), 1);
        due("P8 so it is not locked", x.lock(1, 3, 99), 1);
        due("P8 until just behind NOW", x.lock(1, 2, 100), 1);
        due("P8 below the end", x.lock(1, 3, 100), 0);
        due("P8 an undone act tells NOW too", x.act(2, 1, 7, 1, 100) + x.undo(4), 5);
        due("P8 at the end", x.lock(1, 3, Long.MAX_VALUE), 1);
        due("P8 far from the end", x.lock(1, 2, Long.MAX_VALUE), 0);
        due("P8 the greatest moment", x.act(2, 1, 7, 1, Long.MAX_VALUE), 5);
        due("P8 is the end", x.lock(1, 2, Long.MAX_VALUE), 1);
        due("P8 nothing can be locked behind it", x.lock(1, 3, Long.MAX_VALUE), 1);
    }

    private static void batch() {
        VersionRows x = withRecords(0);
        for (int i = 1; i <= 60; i++) {
            due("P9 act", x.act(1, 1, i, 1, i), i);
        }
        due("P9 from 0", x.batch(0, 2), 0);
        due("P9 to 61", x.batch(60, 61), 0);
        due("P9 none of them there", x.batch(61, 62), 0);
        due("P9 none of them", x.batch(3, 2), 0);
        due("P9 all the wide world", x.batch(Integer.MIN_VALUE, Integer.MAX_VALUE), 0);
        due("P9 undo 3", x.undo(3), 1);
        due("P9 three, one undone", x.batch(2, 4), 1);
        due("P9 one is taken at the end", x.batch(1, 2), 0);
        due("P9 one is taken at the start", x.batch(4, 5), 0);
        due("P9 one is taken within", x.batch(1, 5), 0);
        due("P9 the same again", x.batch(2, 4), 0);
        due("P9 nothing happened to 1", x.batch(1, 1), 2);
        due("P9 nothing happened to 5", x.batch(5, 5), 3);
        due("P9 what was dropped", x.drop(1), 2);
        due("P9 stays in its batch", x.batch(2, 2), 0);
        for (int i = 4; i <= 30; i++) {
            due("P9 batch", x.batch(i + 2, i + 2), i);
        }
        due("P9 the 31st", x.batch(40, 41), 0);
        due("P9 the 30th is there", x.drop(30), 1);
        due("P9 the 31st is not", x.drop(31), 0);
    }

    private static void drop() {
        VersionRows x = withRecords(0);
        for (int i = 1; i <= 6; i++) {
            x.act(1, 1, i, 1, i);
        }
        due("P10 batches", x.batch(2, 4) + x.batch(5, 5), 3);
        due("P10 batch 0", x.drop(0), 0);
        due("P10 batch 3", x.drop(3), 0);
        due("P10 batch -1", x.drop(-1), 0);
        due("P10 undo one of three", x.undo(3), 1);
        due("P10 two are left", x.drop(1), 2);
        due("P10 those ahead stay", x.at(1, 1, 4), 1);
        due("P10 those behind stay", x.at(1, 1, 5) + x.at(1, 1, 6), 11);
        due("P10 none counts", x.drop(1), 0);
        due("P10 undo the one", x.undo(5), 1);
        due("P10 none counts by undo", x.drop(2), 0);
        due("P10 dropped acts are undone", x.undo(2) + x.undo(4), 0);
        due("P10 dropped acts are in history", x.history(1, 1, 1), 2);
        x.lock(1, 1, 100);
        VersionRows y = withRecords(0);
        y.act(1, 1, 1, 1, 1);
        y.batch(1, 1);
        y.lock(1, 1, 100);
        due("P10 a lock does not stop it", y.drop(1), 1);
    }

    private static void dropAndLeans() {
        VersionRows x = withRecords(0);
        for (int i = 1; i <= 6; i++) {
            x.act(1, i, i, 1, i);
        }
        due("P10 batches", x.batch(1, 3) + x.batch(4, 5), 3);
        due("P10 leans within", x.lean(3, 1) + x.lean(3, 2) + x.lean(2, 1), 3);
        due("P10 leans from another batch", x.lean(5, 2), 1);
        due("P10 leans from no batch", x.lean(6, 1), 1);
        due("P10 leaned on by two", x.drop(1), 0);
        due("P10 nothing happened", x.at(1, 1, 9) + x.at(1, 2, 9) + x.at(1, 3, 9), 6);
        due("P10 undo the one in no batch", x.undo(6), 1);
        due("P10 leaned on by the other batch", x.drop(1), 0);
        due("P10 drop that one", x.drop(2), 2);
        due("P10 leaned on only within and by undone ones", x.drop(1), 3);
        VersionRows y = withRecords(0);
        for (int i = 1; i <= 3; i++) {
            y.act(1, i, i, 1, i);
        }
        due("P10 undo, then lean on it", y.undo(1) + y.lean(3, 1), 2);
        due("P10 a batch with an undone act that is leaned on", y.batch(1, 2), 1);
        due("P10 only leans on those that count stop it", y.drop(1), 1);
        VersionRows z = withRecords(0);
        z.act(1, 1, 1, 1, 1);
        z.act(1, 1, 2, 1, 2);
        due("P10 a batch that leans on others", z.lean(2, 1) + z.batch(2, 2), 2);
        due("P10 that does not stop it", z.drop(1), 1);
    }

    private static void conflict() {
        VersionRows x = withRecords(0, 0);
        x.act(1, 1, 5, 1, 10);
        x.act(2, 1, 6, 1, 10);
        x.act(1, 2, 6, 1, 10);
        x.act(1, 1, 6, 1, 11);
        x.act(1, 1, 5, 2, 10);
        due("P11 other record, field, moment or the same value", x.conflict(0, 0), VersionRows.NONE);
        x.act(1, 1, 7, 9, 10);
        x.act(1, 1, 8, 1, 10);
        int[][] pairs = {{1, 6}, {1, 7}, {5, 6}, {5, 7}, {6, 7}};
        duePairs("P11 all that count", x, pairs);
        due("P11 a pair below 0", x.conflict(-1, 0), VersionRows.NONE);
        due("P11 the least pair", x.conflict(Integer.MIN_VALUE, 1), VersionRows.NONE);
        due("P11 the greatest pair", x.conflict(Integer.MAX_VALUE, 1), VersionRows.NONE);
        due("P11 what 2", x.conflict(0, 2), VersionRows.NONE);
        due("P11 what -1", x.conflict(0, -1), VersionRows.NONE);
        due("P11 undo 1", x.undo(1), 1);
        duePairs("P11 the lower undone", x, new int[][] {{5, 6}, {5, 7}, {6, 7}});
        due("P11 undo 7", x.undo(7), 1);
        duePairs("P11 the higher undone", x, new int[][] {{5, 6}});
        due("P11 a conflict of the other record", x.act(2, 1, 9, 1, 10), 8);
        duePairs("P11 two records", x, new int[][] {{2, 8}, {5, 6}});
    }

    private static void duePairs(String what, VersionRows x, int[][] pairs) {
        for (int i = 0; i < pairs.length; i++) {
            due(what + ": lower of pair " + i, x.conflict(i, 0), pairs[i][0]);
            due(what + ": higher of pair " + i, x.conflict(i, 1), pairs[i][1]);
        }
        due(what + ": behind the last pair", x.conflict(pairs.length, 0), VersionRows.NONE);
        due(what + ": behind the last pair", x.conflict(pairs.length, 1), VersionRows.NONE);
    }

    private static void history() {
        VersionRows x = withRecords(0, 0);
        due("P12 none yet", x.history(1, 1, 0), 0);
        x.act(1, 1, 1, 5, 20);
        x.act(1, 1, 2, 9, 10);
        x.act(2, 1, 3, 1, 1);
        x.act(1, 1, 4, 4, 20);
        x.act(1, 2, 5, 1, 1);
        x.act(1, 1, 6, 5, 20);
        x.act(1, 1, 7, 6, -20);
        x.act(1, 1, 8, -6, 20);
        dueHistory(x);
        due("P12 undo", x.undo(2) + x.undo(6), 2);
        dueHistory(x);
        due("P12 the other record", x.history(2, 1, 0), 3);
        due("P12 the other field", x.history(1, 2, 0), 5);
        due("P12 behind the last of the other field", x.history(1, 2, 1), 0);
        due("P12 below 0", x.history(1, 1, -1), 0);
        due("P12 the least", x.history(1, 1, Integer.MIN_VALUE), 0);
        due("P12 the greatest", x.history(1, 1, Integer.MAX_VALUE), 0);
        due("P12 field 8", x.history(1, 8, 0), 0);
        due("P12 field -1", x.history(1, -1, 0), 0);
        due("P12 record 3", x.history(3, 1, 0), 0);
        due("P12 record 0", x.history(0, 0, 0), 0);
    }

    private static void dueHistory(VersionRows x) {
        int[] order = {7, 2, 8, 4, 1, 6};
        for (int i = 0; i < order.length; i++) {
            due("P12 place " + i, x.history(1, 1, i), order[i]);
        }
        due("P12 behind the last", x.history(1, 1, order.length), 0);
    }

    private static void wrongArguments() {
        VersionRows x = withRecords(0);
        x.act(1, 1, 1, 1, 1);
        x.act(1, 1, 2, 1, 1);
        x.batch(1, 1);
        for (int n : NO_NUMBERS) {
            due("P3 act on record " + n, x.act(n, 1, 1, 1, 1), 0);
            due("P4 at of record " + n, x.at(n, 1, 1), VersionRows.NONE);
            due("P5 stale of record " + n, x.stale(n, 1, 1), VersionRows.NONE);
            due("P6 undo of " + n, x.undo(n), 0);
            due("P7 lean of " + n, x.lean(n, 1), 0);
            due("P7 lean on " + n, x.lean(2, n), 0);
            due("P8 lock of " + n, x.lock(n, 1, 1), 0);
            due("P9 batch from " + n, x.batch(n, 2), 0);
            due("P9 batch to " + n, x.batch(2, n), 0);
            due("P10 drop of " + n, x.drop(n), 0);
            due("P12 history of record " + n, x.history(n, 1, 0), 0);
            if (n != 0) {
                due("P3 act on field " + n, x.act(1, n, 1, 1, 1), 0);
                due("P4 at of field " + n, x.at(1, n, 1), VersionRows.NONE);
                due("P5 stale of field " + n, x.stale(1, 1, n), VersionRows.NONE);
                due("P11 conflict " + n, x.conflict(n, 0), VersionRows.NONE);
                due("P11 conflict with what " + n, x.conflict(0, n), VersionRows.NONE);
                due("P12 history of field " + n, x.history(1, n, 0), 0);
                due("P12 history at " + n, x.history(1, 1, n), 0);
            }
        }
    }

    private static void fullObject() {
        VersionRows x = withRecords(0, 1);
        for (int i = 1; i <= 200; i++) {
            due("P3 act " + i, x.act(1, 3, i, 1, -i), i);
        }
        due("P3 the 201st", x.act(1, 3, 201, 1, 1), 0);
        due("P3 the same goes ahead of 200", x.act(1, 3, 200, 1, -200), 200);
        due("P3 nothing happened", x.at(1, 3, 1), 1);
        due("P12 the first in order", x.history(1, 3, 0), 200);
        due("P12 the last in order", x.history(1, 3, 199), 1);
        due("P12 behind all", x.history(1, 3, 200), 0);
        due("P7 the last leans", x.lean(200, 199) + x.lean(200, 1), 2);
        due("P7 on one that can't be", x.lean(201, 200), 0);
        due("P6 leaned on", x.undo(199), 0);
        due("P9 all but the last", x.batch(1, 199), 1);
        due("P10 leaned on by the last", x.drop(1), 0);
        due("P6 the last", x.undo(200), 1);
        due("P3 an undone act makes no room", x.act(1, 3, 200, 1, -200), 0);
        due("P10 all but the last", x.drop(1), 199);
        due("P4 nothing counts", x.at(1, 3, Long.MAX_VALUE), VersionRows.NONE);
        VersionRows y = withRecords(0);
        for (int i = 1; i <= 200; i++) {
            y.act(1, 3, i, 1, 1);
        }
        due("P11 the last pair of all", y.conflict(19899, 0), 199);
        due("P11 its higher one", y.conflict(19899, 1), 200);
        due("P11 behind it", y.conflict(19900, 0), VersionRows.NONE);
    }
}
