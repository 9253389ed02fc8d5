/**
 * Versions of records: acts on fields, as they were known at any moment.
 *
 * All rows are made with the object and are as long as the document's limits,
 * so that no call makes an object. Records, acts and batches are numbered
 * from 1 on, and element 0 of their rows is not used: 0 can say "none".
 */
public final class VersionRows {
    public static final int NONE = -1;

    private static final int KINDS = 4;
    private static final int KIND_WITH_HOLDINGS = 1;
    private static final int FIELDS = 8;
    private static final int DELETED_FIELD = 0;
    private static final long DELETED = 1L;
    private static final long GREATEST_VALUE = 2147483647L;
    private static final long LEAST_MOMENT = -9223372036854775808L;
    private static final int MOST_RECORDS = 20;
    private static final int MOST_ACTS = 200;
    private static final int MOST_BATCHES = 30;

    private final Records records;
    private final Acts acts;
    private final Leans leans;
    private final Batches batches;

    public VersionRows() {
        records = new Records();
        acts = new Acts();
        leans = new Leans();
        batches = new Batches();
    }

    public int record(int kind) {
        if (kind < 0 || kind >= KINDS) {
            return 0;
        }
        return records.add(kind);
    }

    public int act(int record, int field, long v, long valid, long known) {
        if (!hasField(record, field) || v < 0 || v > GREATEST_VALUE) {
            return 0;
        }
        if (isLocked(record) || isRefusedDeletion(record, field, v)) {
            return 0;
        }
        int value = (int) v;
        int same = acts.findCounting(record, field, value, valid, known);
        if (same != 0) {
            return same;
        }
        return acts.add(record, field, value, valid, known);
    }

    public int at(int record, int field, long known) {
        if (!hasField(record, field)) {
            return NONE;
        }
        int last = acts.lastCounting(record, field, known);
        return last == 0 ? NONE : acts.value(last);
    }

    public int stale(int record, long known, int field) {
        if (!hasField(record, field)) {
            return NONE;
        }
        int last = acts.lastCounting(record, field, acts.now());
        if (last == 0 || acts.known(last) <= known) {
            return 1;
        }
        int then = acts.lastCounting(record, field, known);
        // A field that had no value then can't have been left as it was.
        return then != 0 && acts.value(then) == acts.value(last) ? 2 : 0;
    }

    public int undo(int act) {
        if (!acts.has(act) || !acts.counts(act) || isLeanedOn(act)) {
            return 0;
        }
        acts.setUndone(act);
        return 1;
    }

    public int lean(int act, int other) {
        if (!acts.has(act) || !acts.has(other) || other >= act || leans.has(act, other)) {
            return 0;
        }
        leans.add(act, other);
        return 1;
    }

    public int lock(int record, int who, long until) {
        if (!records.has(record) || isLocked(record) && records.locker(record) != who) {
            return 0;
        }
        records.setLock(record, who, until);
        return 1;
    }

    public int batch(int from, int to) {
        if (!acts.has(from) || !acts.has(to) || from > to) {
            return 0;
        }
        return batches.add(from, to);
    }

    public int drop(int batch) {
        if (!batches.has(batch) || isLeanedOnFromOutside(batch)) {
            return 0;
        }
        int dropped = 0;
        for (int act = acts.count(); act >= 1; act--) {
            if (countsInBatch(act, batch)) {
                acts.setUndone(act);
                dropped++;
            }
        }
        return dropped;
    }

    public int conflict(int i, int what) {
        if (i < 0 || what < 0 || what > 1) {
            return NONE;
        }
        int ahead = i;
        int count = acts.count();
        for (int lower = 1; lower < count; lower++) {
            for (int higher = lower + 1; higher <= count; higher++) {
                if (acts.areInConflict(lower, higher)) {
                    if (ahead == 0) {
                        return what == 0 ? lower : higher;
                    }
                    ahead--;
                }
            }
        }
        return NONE;
    }

    public int history(int record, int field, int i) {
        if (!hasField(record, field) || i < 0) {
            return 0;
        }
        return acts.inOrder(record, field, i);
    }

    private boolean hasField(int record, int field) {
        return records.has(record) && field >= 0 && field < FIELDS;
    }

    private boolean isLocked(int record) {
        return acts.now() < records.until(record);
    }

    // Whether the mark would win in ORDER does not matter: a record with
    // holdings must not be known as deleted at any moment, nor after an undo.
    private boolean isRefusedDeletion(int record, int field, long v) {
        return field == DELETED_FIELD && v == DELETED && records.kind(record) == KIND_WITH_HOLDINGS;
    }

    private boolean isLeanedOn(int act) {
        for (int later = act + 1; later <= acts.count(); later++) {
            if (acts.counts(later) && leans.has(later, act)) {
                return true;
            }
        }
        return false;
    }

    private boolean isLeanedOnFromOutside(int batch) {
        for (int act = 1; act <= acts.count(); act++) {
            if (countsInBatch(act, batch) && isLeanedOnOutside(act, batch)) {
                return true;
            }
        }
        return false;
    }

    private boolean isLeanedOnOutside(int act, int batch) {
        for (int later = act + 1; later <= acts.count(); later++) {
            if (acts.counts(later) && batches.of(later) != batch && leans.has(later, act)) {
                return true;
            }
        }
        return false;
    }

    private boolean countsInBatch(int act, int batch) {
        return batches.of(act) == batch && acts.counts(act);
    }

    /** The records, each with its lock. Numbers given to it are of records that are there. */
    private static final class Records {
        private final int[] kinds = new int[MOST_RECORDS + 1];
        private final int[] lockers = new int[MOST_RECORDS + 1];
        private final long[] untils = new long[MOST_RECORDS + 1];
        private int count = 0;

        boolean has(int number) {
            return number >= 1 && number <= count;
        }

        int add(int kind) {
            if (count >= MOST_RECORDS) {
                return 0;
            }
            count++;
            kinds[count] = kind;
            // NOW is never below the least moment, so this is no lock.
            untils[count] = LEAST_MOMENT;
            return count;
        }

        int kind(int number) {
            return kinds[number];
        }

        int locker(int number) {
            return lockers[number];
        }

        long until(int number) {
            return untils[number];
        }

        void setLock(int number, int who, long until) {
            lockers[number] = who;
            untils[number] = until;
        }
    }

    /** The acts and their ORDER. Numbers given to it are of acts that are there. */
    private static final class Acts {
        private final int[] records = new int[MOST_ACTS + 1];
        private final int[] fields = new int[MOST_ACTS + 1];
        private final int[] values = new int[MOST_ACTS + 1];
        private final long[] valids = new long[MOST_ACTS + 1];
        private final long[] knowns = new long[MOST_ACTS + 1];
        private final boolean[] counting = new boolean[MOST_ACTS + 1];
        // The acts of all fields together: those of one field are in ORDER
        // among them, and the last one of all tells NOW.
        private final int[] ordered = new int[MOST_ACTS + 1];
        private int count = 0;

        boolean has(int number) {
            return number >= 1 && number <= count;
        }

        int count() {
            return count;
        }

        boolean counts(int number) {
            return counting[number];
        }

        int value(int number) {
            return values[number];
        }

        long known(int number) {
            return knowns[number];
        }

        long now() {
            return count == 0 ? LEAST_MOMENT : knowns[ordered[count]];
        }

        void setUndone(int number) {
            counting[number] = false;
        }

        int add(int record, int field, int value, long valid, long known) {
            if (count >= MOST_ACTS) {
                return 0;
            }
            count++;
            records[count] = record;
            fields[count] = field;
            values[count] = value;
            valids[count] = valid;
            knowns[count] = known;
            counting[count] = true;
            putNewestInOrder();
            return count;
        }

        // The newest act has the greatest number: it stands behind its equals.
        private void putNewestInOrder() {
            int place = count;
            while (place > 1 && isBehind(ordered[place - 1], count)) {
                ordered[place] = ordered[place - 1];
                place--;
            }
            ordered[place] = count;
        }

        private boolean isBehind(int one, int other) {
            if (knowns[one] != knowns[other]) {
                return knowns[one] > knowns[other];
            }
            return valids[one] > valids[other];
        }

        int findCounting(int record, int field, int value, long valid, long known) {
            for (int act = 1; act <= count; act++) {
                if (counting[act] && isOf(act, record, field) && values[act] == value
                        && valids[act] == valid && knowns[act] == known) {
                    return act;
                }
            }
            return 0;
        }

        int lastCounting(int record, int field, long moment) {
            for (int place = count; place >= 1; place--) {
                int act = ordered[place];
                if (counting[act] && knowns[act] <= moment && isOf(act, record, field)) {
                    return act;
                }
            }
            return 0;
        }

        int inOrder(int record, int field, int i) {
            int ahead = i;
            for (int place = 1; place <= count; place++) {
                int act = ordered[place];
                if (isOf(act, record, field)) {
                    if (ahead == 0) {
                        return act;
                    }
                    ahead--;
                }
            }
            return 0;
        }

        boolean areInConflict(int one, int other) {
            return knowns[one] == knowns[other] && counting[one] && counting[other]
                    && isOf(one, records[other], fields[other]) && values[one] != values[other];
        }

        private boolean isOf(int act, int record, int field) {
            return records[act] == record && fields[act] == field;
        }
    }

    /** Which act leans on which, a bit for each pair: a row of truth values would fill the room. */
    private static final class Leans {
        private static final int BITS = 64;
        private static final int WORDS = MOST_ACTS / BITS + 1;

        private final long[] words = new long[(MOST_ACTS + 1) * WORDS];

        boolean has(int act, int other) {
            return (words[wordOf(act, other)] & bitOf(other)) != 0;
        }

        void add(int act, int other) {
            words[wordOf(act, other)] |= bitOf(other);
        }

        private static int wordOf(int act, int other) {
            return act * WORDS + other / BITS;
        }

        private static long bitOf(int other) {
            return 1L << (other % BITS);
        }
    }

    /** The batch that each act is in, 0 for none. Acts given to it are there. */
    private static final class Batches {
        private final int[] batchOfAct = new int[MOST_ACTS + 1];
        private int count = 0;

        boolean has(int number) {
            return number >= 1 && number <= count;
        }

        int of(int act) {
            return batchOfAct[act];
        }

        int add(int from, int to) {
            if (count >= MOST_BATCHES || isAnyTaken(from, to)) {
                return 0;
            }
            count++;
            for (int act = from; act <= to; act++) {
                batchOfAct[act] = count;
            }
            return count;
        }

        private boolean isAnyTaken(int from, int to) {
            for (int act = from; act <= to; act++) {
                if (batchOfAct[act] != 0) {
                    return true;
                }
            }
            return false;
        }
    }
}
