import java.util.ArrayList;
import java.util.Comparator;
import java.util.HashSet;
import java.util.List;
import java.util.Random;
import java.util.Set;

/**
 * Long runs of calls, the same ones every time, on the class and on a model
 * that says the document's terms as plainly as it can, with no eye on speed.
 */
public final class ModelTest {
    private static final int RUNS = 3000;
    private static final int CALLS = 512;
    private static final int MOST_TOLD = 20;
    private static int wrong = 0;

    public static void main(String[] args) {
        int[] told = new int[11];
        for (int seed = 0; seed < RUNS; seed++) {
            new Run(seed, told).go();
        }
        for (int call = 0; call < told.length; call++) {
            // Runs that never see an answer other than "refused" would test nothing.
            if (told[call] < RUNS) {
                wrong++;
                System.out.println("call " + call + " had only " + told[call] + " answers that say something");
            }
        }
        System.out.println(wrong == 0 ? "ModelTest: all answers are as due" : "ModelTest: " + wrong + " wrong");
        if (wrong != 0) {
            System.exit(1);
        }
    }

    /** One run of calls: its seed says how narrow its moments and values are, and which calls it likes. */
    private static final class Run {
        private final int seed;
        private final int[] told;
        private final Random random;
        private final int[] weights = new int[11];
        private final int moments;
        private final int values;
        private final int fields;
        private final int mostRecords;
        private final VersionRows rows = new VersionRows();
        private final Model model = new Model();

        Run(int seed, int[] told) {
            this.seed = seed;
            this.told = told;
            random = new Random(seed);
            for (int i = 0; i < weights.length; i++) {
                weights[i] = 1 + random.nextInt(6);
            }
            weights[1] += random.nextInt(30);
            moments = 1 + random.nextInt(random.nextBoolean() ? 4 : 40);
            values = 1 + random.nextInt(4);
            fields = 1 + random.nextInt(8);
            mostRecords = 1 + random.nextInt(random.nextBoolean() ? 2 : 24);
        }

        void go() {
            for (int i = 0; i < mostRecords; i++) {
                callRecord(random.nextInt(4));
            }
            for (int i = mostRecords; i < CALLS; i++) {
                callOne(pick());
            }
        }

        private int pick() {
            int all = 0;
            for (int weight : weights) {
                all += weight;
            }
            int left = random.nextInt(all);
            int call = 0;
            while (left >= weights[call]) {
                left -= weights[call];
                call++;
            }
            return call;
        }

        private void callOne(int call) {
            int r = number(model.kinds.size());
            int f = random.nextInt(30) == 0 ? random.nextInt(12) - 2 : random.nextInt(fields);
            int a = number(model.acts.size());
            switch (call) {
                case 0 -> callRecord(random.nextInt(6) - 1);
                case 1 -> callAct(r, f);
                case 2 -> callAt(r, f, moment());
                case 3 -> callStale(r, moment(), f);
                case 4 -> compare(4, "undo(" + a + ")", rows.undo(a), model.undo(a));
                case 5 -> callLean(a, number(random.nextInt(5) == 0 ? model.acts.size() : Math.floorMod(a, 201)));
                case 6 -> callLock(r, random.nextInt(3), moment());
                case 7 -> callBatch(a, a + random.nextInt(random.nextInt(8) + 1) - 1);
                case 8 -> callDrop(number(model.batches.size()));
                case 9 -> callConflict(random.nextInt(random.nextBoolean() ? 4 : 400) - 1, random.nextInt(12) == 0 ? random.nextInt(5) - 2 : random.nextInt(2));
                default -> callHistory(r, f, random.nextInt(random.nextBoolean() ? 4 : 40) - 1);
            }
        }

        private int number(int greatest) {
            int kind = random.nextInt(60);
            if (kind == 0) {
                return random.nextInt();
            }
            return kind == 1 ? greatest + 1 - random.nextInt(greatest + 3) : 1 + random.nextInt(Math.max(1, greatest));
        }

        private long moment() {
            int kind = random.nextInt(200);
            if (kind == 0) {
                return Long.MIN_VALUE + random.nextInt(2);
            }
            return kind == 1 && random.nextInt(8) == 0 ? Long.MAX_VALUE - random.nextInt(2) : random.nextInt(moments) - moments / 2;
        }

        private void callRecord(int kind) {
            compare(0, "record(" + kind + ")", rows.record(kind), model.record(kind));
        }

        private void callAct(int r, int f) {
            long v = random.nextInt(40) == 0 ? random.nextLong() >> random.nextInt(40) : random.nextInt(values);
            long valid = random.nextInt(40) == 0 ? random.nextLong() : random.nextInt(3);
            long known = moment();
            compare(1, "act(" + r + ", " + f + ", " + v + ", " + valid + ", " + known + ")",
                    rows.act(r, f, v, valid, known), model.act(r, f, v, valid, known));
        }

        private void callAt(int r, int f, long known) {
            compare(2, "at(" + r + ", " + f + ", " + known + ")", rows.at(r, f, known), model.at(r, f, known));
        }

        private void callStale(int r, long known, int f) {
            compare(3, "stale(" + r + ", " + known + ", " + f + ")", rows.stale(r, known, f), model.stale(r, known, f));
        }

        private void callLean(int a, int b) {
            compare(5, "lean(" + a + ", " + b + ")", rows.lean(a, b), model.lean(a, b));
        }

        private void callLock(int r, int who, long until) {
            compare(6, "lock(" + r + ", " + who + ", " + until + ")", rows.lock(r, who, until), model.lock(r, who, until));
        }

        private void callBatch(int from, int to) {
            compare(7, "batch(" + from + ", " + to + ")", rows.batch(from, to), model.batch(from, to));
        }

        private void callDrop(int b) {
            compare(8, "drop(" + b + ")", rows.drop(b), model.drop(b));
        }

        private void callConflict(int i, int what) {
            compare(9, "conflict(" + i + ", " + what + ")", rows.conflict(i, what), model.conflict(i, what));
        }

        private void callHistory(int r, int f, int i) {
            compare(10, "history(" + r + ", " + f + ", " + i + ")", rows.history(r, f, i), model.history(r, f, i));
        }

        private void compare(int call, String text, int got, int want) {
            if (want > 0) {
                told[call]++;
            }
            if (got != want) {
                wrong++;
                if (wrong <= MOST_TOLD) {
                    System.out.println("seed " + seed + ": " + text + " answered " + got + ", due is " + want);
                }
            }
        }
    }

    private static final class Act {
        int number;
        int record;
        int field;
        long value;
        long valid;
        long known;
        boolean undone;
        int batch;
        final Set<Integer> leansOn = new HashSet<>();
    }

    private static final class Lock {
        int who;
        long until;
    }

    /** The document's terms and promises, word for word. Lists hold number n at n - 1. */
    private static final class Model {
        final List<Integer> kinds = new ArrayList<>();
        final List<Lock> locks = new ArrayList<>();
        final List<Act> acts = new ArrayList<>();
        final List<Integer> batches = new ArrayList<>();

        static boolean in(int number, List<?> list) {
            return number >= 1 && number <= list.size();
        }

        boolean noField(int record, int field) {
            return !in(record, kinds) || field < 0 || field > 7;
        }

        long now() {
            return acts.stream().mapToLong(a -> a.known).max().orElse(Long.MIN_VALUE);
        }

        boolean locked(int record) {
            Lock lock = locks.get(record - 1);
            return lock != null && now() < lock.until;
        }

        List<Act> ordered(int record, int field) {
            List<Act> list = new ArrayList<>();
            for (Act a : acts) {
                if (a.record == record && a.field == field) {
                    list.add(a);
                }
            }
            list.sort(Comparator.<Act>comparingLong(a -> a.known).thenComparingLong(a -> a.valid).thenComparingInt(a -> a.number));
            return list;
        }

        int record(int kind) {
            if (kind < 0 || kind > 3 || kinds.size() == 20) {
                return 0;
            }
            kinds.add(kind);
            locks.add(null);
            return kinds.size();
        }

        int act(int record, int field, long v, long valid, long known) {
            if (noField(record, field) || v < 0 || v > 2147483647L || locked(record)) {
                return 0;
            }
            if (field == 0 && v == 1 && kinds.get(record - 1) == 1) {
                return 0;
            }
            for (Act a : acts) {
                if (!a.undone && a.record == record && a.field == field && a.value == v && a.valid == valid && a.known == known) {
                    return a.number;
                }
            }
            if (acts.size() == 200) {
                return 0;
            }
            Act a = new Act();
            a.number = acts.size() + 1;
            a.record = record;
            a.field = field;
            a.value = v;
            a.valid = valid;
            a.known = known;
            acts.add(a);
            return a.number;
        }

        int at(int record, int field, long known) {
            int value = VersionRows.NONE;
            if (!noField(record, field)) {
                for (Act a : ordered(record, field)) {
                    if (!a.undone && a.known <= known) {
                        value = (int) a.value;
                    }
                }
            }
            return value;
        }

        int stale(int record, long known, int field) {
            if (noField(record, field)) {
                return VersionRows.NONE;
            }
            Act last = null;
            for (Act a : ordered(record, field)) {
                if (!a.undone && a.known > known) {
                    last = a;
                }
            }
            if (last == null) {
                return 1;
            }
            return last.value == at(record, field, known) ? 2 : 0;
        }

        int undo(int act) {
            if (!in(act, acts) || acts.get(act - 1).undone) {
                return 0;
            }
            for (Act a : acts) {
                if (!a.undone && a.leansOn.contains(act)) {
                    return 0;
                }
            }
            acts.get(act - 1).undone = true;
            return 1;
        }

        int lean(int act, int other) {
            return in(act, acts) && in(other, acts) && other < act && acts.get(act - 1).leansOn.add(other) ? 1 : 0;
        }

        int lock(int record, int who, long until) {
            if (!in(record, kinds) || locked(record) && locks.get(record - 1).who != who) {
                return 0;
            }
            Lock lock = new Lock();
            lock.who = who;
            lock.until = until;
            locks.set(record - 1, lock);
            return 1;
        }

        int batch(int from, int to) {
            if (from > to || batches.size() == 30) {
                return 0;
            }
            for (long n = from; n <= to; n++) {
                if (!in((int) n, acts) || acts.get((int) n - 1).batch != 0) {
                    return 0;
                }
            }
            batches.add(from);
            for (int n = from; n <= to; n++) {
                acts.get(n - 1).batch = batches.size();
            }
            return batches.size();
        }

        int drop(int batch) {
            if (!in(batch, batches)) {
                return 0;
            }
            Set<Integer> counting = new HashSet<>();
            for (Act a : acts) {
                if (a.batch == batch && !a.undone) {
                    counting.add(a.number);
                }
            }
            for (Act a : acts) {
                if (a.batch != batch && !a.undone && a.leansOn.stream().anyMatch(counting::contains)) {
                    return 0;
                }
            }
            counting.forEach(n -> acts.get(n - 1).undone = true);
            return counting.size();
        }

        int conflict(int i, int what) {
            List<int[]> pairs = new ArrayList<>();
            for (Act a : acts) {
                for (Act b : acts) {
                    if (a.number < b.number && !a.undone && !b.undone && a.record == b.record
                            && a.field == b.field && a.known == b.known && a.value != b.value) {
                        pairs.add(new int[] {a.number, b.number});
                    }
                }
            }
            return i < 0 || i >= pairs.size() || what < 0 || what > 1 ? VersionRows.NONE : pairs.get(i)[what];
        }

        int history(int record, int field, int i) {
            if (noField(record, field)) {
                return 0;
            }
            List<Act> list = ordered(record, field);
            return i < 0 || i >= list.size() ? 0 : list.get(i).number;
        }
    }
}
