import java.util.ArrayList;
import java.util.Comparator;
import java.util.HashMap;
import java.util.List;
import java.util.Map;
import java.util.Random;
import java.util.function.Predicate;

/**
 * Runs of calls on the class and on a second telling of the document, which keeps no counters and
 * looks everything up anew. The seeds are fixed, so each run of this test makes the same calls.
 */
public final class ModelTest {
    private static final int RUNS = 3000;
    private static final int CALLS = 512;
    private static final int THROWN_ARGUMENT = -1001;
    private static final int THROWN_INDEX = -1002;
    private static final int THROWN_OTHER = -1003;
    private static final int[] ODD = {-1, -2, Integer.MIN_VALUE, Integer.MAX_VALUE, 8, 50, 200, 1000001};

    /** How often each of the thirteen calls comes, in the order of the face. */
    private static final int[][] WEIGHTS = {
        {8, 12, 20, 12, 4, 6, 8, 4, 6, 5, 2, 8, 2},
        {4, 40, 5, 40, 2, 2, 2, 1, 2, 2, 1, 4, 1},
        {6, 12, 16, 14, 3, 4, 5, 3, 3, 14, 6, 10, 3},
    };

    public static void main(String[] args) {
        Check check = new Check("ModelTest");
        for (int seed = 0; seed < RUNS; seed++) {
            run(check, seed);
        }
        check.finish();
    }

    private static void run(Check check, int seed) {
        Random random = new Random(seed);
        int[] weights = WEIGHTS[seed % WEIGHTS.length];
        int seriesUsed = 1 + random.nextInt(seed % 2 == 0 ? 2 : 8);
        int filesUsed = random.nextBoolean() ? 4 : 50;
        ChainPicker real = new ChainPicker();
        Model model = new Model();
        for (int call = 0; call < CALLS; call++) {
            int which = pick(random, weights);
            int[] a = arguments(random, which, model, seriesUsed, filesUsed);
            String name = "seed " + seed + " call " + call + ": " + which + " of "
                    + a[0] + ", " + a[1] + ", " + a[2];
            check.same(name, answer(real, which, a), model.answer(which, a));
        }
    }

    private static int pick(Random random, int[] weights) {
        int sum = 0;
        for (int weight : weights) {
            sum += weight;
        }
        int left = random.nextInt(sum);
        int which = 0;
        while (left >= weights[which]) {
            left -= weights[which];
            which++;
        }
        return which;
    }

    private static int[] arguments(Random random, int which, Model model, int series, int files) {
        int[] a = new int[3];
        int anyJob = random.nextInt(model.jobs.size() + 1);
        int anySeries = random.nextInt(series);
        int anyTime = random.nextInt(model.now + 2);
        int anyFile = random.nextInt(files);
        switch (which) {
            case 0: a[0] = random.nextInt(100) == 0 ? 900000000 : random.nextInt(4); break;
            case 1: a[0] = anySeries; a[1] = random.nextInt(4) == 0 ? 0 : 1 + random.nextInt(2); break;
            case 2: a[0] = runningJob(random, model, anyJob); a[1] = anyFile;
                a[2] = random.nextInt(3) == 0 ? -1 : random.nextInt(1000001); break;
            case 3: a[0] = runningJob(random, model, anyJob); a[1] = random.nextInt(4) == 0 ? 0 : 1; break;
            case 4: case 7: a[0] = anySeries; a[1] = anyTime; break;
            case 5: a[0] = anySeries; a[1] = anyTime; a[2] = random.nextInt(5); break;
            case 6: case 8: a[0] = anySeries; a[1] = anyTime; a[2] = anyFile; break;
            case 9: a[0] = anyJob; break;
            case 10: a[0] = random.nextInt(40); break;
            case 11: a[0] = anyJob; a[1] = random.nextInt(12); break;
            default: a[0] = random.nextInt(5); break;
        }
        if (random.nextInt(25) == 0) {
            a[random.nextInt(3)] = ODD[random.nextInt(ODD.length)];
        }
        return a;
    }

    private static int runningJob(Random random, Model model, int otherwise) {
        List<Integer> running = new ArrayList<>();
        for (Entry job : model.jobs) {
            if (job.state == 0) {
                running.add(job.number);
            }
        }
        if (running.isEmpty() || random.nextInt(10) == 0) {
            return otherwise;
        }
        return running.get(random.nextInt(running.size()));
    }

    private static int answer(ChainPicker x, int which, int[] a) {
        try {
            switch (which) {
                case 0: return x.pass(a[0]);
                case 1: return x.begin(a[0], a[1]);
                case 2: return x.tell(a[0], a[1], a[2]) ? 1 : 0;
                case 3: return x.end(a[0], a[1] == 1) ? 1 : 0;
                case 4: return x.chain(a[0], a[1]);
                case 5: return x.link(a[0], a[1], a[2]);
                case 6: return x.view(a[0], a[1], a[2]);
                case 7: return x.files(a[0], a[1]);
                case 8: return x.source(a[0], a[1], a[2]);
                case 9: return x.prune(a[0]) ? 1 : 0;
                case 10: return x.expire(a[0]);
                case 11: return x.job(a[0], a[1]);
                default: return x.count(a[0]);
            }
        } catch (RuntimeException e) {
            if (e.getClass() == IllegalArgumentException.class) {
                return THROWN_ARGUMENT;
            }
            return e.getClass() == IndexOutOfBoundsException.class ? THROWN_INDEX : THROWN_OTHER;
        }
    }

    private static final class Entry {
        int number;
        int series;
        int level;
        int upgraded;
        int base = -1;
        int began;
        int ended = -1;
        int state;
        int pruned;
        int since = -1;
        final Map<Integer, Integer> told = new HashMap<>();
    }

    private static final class Model {
        final List<Entry> jobs = new ArrayList<>();
        int now;

        int answer(int which, int[] a) {
            switch (which) {
                case 0: return pass(a[0]);
                case 1: return begin(a[0], a[1]);
                case 2: return tell(a[0], a[1], a[2]);
                case 3: return end(a[0], a[1] == 1);
                case 4: return chainOf(a[0], a[1]).size();
                case 5: return link(chainOf(a[0], a[1]), a[2]);
                case 6: return viewOf(a[0], a[1]).getOrDefault(a[2], new int[] {-1, -1})[0];
                case 7: return (int) viewOf(a[0], a[1]).values().stream().filter(v -> v[0] >= 0).count();
                case 8: return viewOf(a[0], a[1]).getOrDefault(a[2], new int[] {-1, -1})[1];
                case 9: return prune(a[0]);
                case 10: return expire(a[0]);
                case 11: return jobOf(a[0], a[1]);
                default: return countOf(a[0]);
            }
        }

        private int pass(int n) {
            if (n < 0 || (long) now + n > 1000000000L) {
                return THROWN_ARGUMENT;
            }
            now += n;
            return now;
        }

        private Entry last(Predicate<Entry> fits) {
            Comparator<Entry> order = Comparator.comparingInt((Entry e) -> e.began)
                    .thenComparingInt(e -> e.number);
            return jobs.stream().filter(e -> e.state == 1 && e.pruned == 0).filter(fits)
                    .max(order).orElse(null);
        }

        private int begin(int series, int level) {
            boolean runs = jobs.stream().anyMatch(e -> e.series == series && e.state == 0);
            if (series < 0 || series > 7 || level < 0 || level > 2 || runs || jobs.size() == 200) {
                return -1;
            }
            Entry base = null;
            if (level == 1) {
                base = last(e -> e.series == series && e.level == 0);
            } else if (level == 2) {
                base = last(e -> e.series == series);
            }
            Entry made = new Entry();
            made.number = jobs.size();
            made.series = series;
            made.began = now;
            made.level = level;
            if (base != null) {
                made.base = base.number;
                made.since = base.began;
            } else if (level != 0) {
                made.level = 0;
                made.upgraded = 1;
            }
            jobs.add(made);
            return made.number;
        }

        private boolean isJob(int job) {
            return job >= 0 && job < jobs.size();
        }

        private int tell(int job, int file, int version) {
            if (!isJob(job) || jobs.get(job).state != 0) {
                return 0;
            }
            if (file < 0 || file > 49 || version < -1 || version > 1000000) {
                return 0;
            }
            if (version == -1 && jobs.get(job).level == 0) {
                return 0;
            }
            jobs.get(job).told.put(file, version);
            return 1;
        }

        private int end(int job, boolean good) {
            if (!isJob(job) || jobs.get(job).state != 0) {
                return 0;
            }
            jobs.get(job).state = good ? 1 : 2;
            jobs.get(job).ended = now;
            return 1;
        }

        private List<Entry> chainOf(int series, int time) {
            List<Entry> chain = new ArrayList<>();
            Entry link = last(e -> e.series == series && e.ended <= time);
            while (link != null) {
                chain.add(link);
                link = link.base == -1 ? null : jobs.get(link.base);
            }
            return chain;
        }

        private static int link(List<Entry> chain, int i) {
            return i < 0 || i >= chain.size() ? THROWN_INDEX : chain.get(i).number;
        }

        /** Of each file that the chain was told of: the version or -1, and the job. */
        private Map<Integer, int[]> viewOf(int series, int time) {
            List<Entry> chain = chainOf(series, time);
            Map<Integer, int[]> view = new HashMap<>();
            for (int i = chain.size() - 1; i >= 0; i--) {
                Entry link = chain.get(i);
                link.told.forEach((file, version) -> view.put(file, new int[] {version, link.number}));
            }
            return view;
        }

        private int standing(int job) {
            return (int) jobs.stream().filter(e -> e.pruned == 0 && e.base == job).count();
        }

        private int prune(int job) {
            if (!isJob(job)) {
                return 0;
            }
            Entry old = jobs.get(job);
            if (old.state == 0 || old.pruned == 1 || standing(job) != 0) {
                return 0;
            }
            old.pruned = 1;
            old.told.clear();
            return 1;
        }

        private boolean isKept(Entry job) {
            if (job.level != 0 || job.state != 1) {
                return false;
            }
            return jobs.stream().filter(e -> e.series == job.series && e.level == 0 && e.state == 1
                    && e.pruned == 0).count() == 1;
        }

        private int expire(int n) {
            if (n < 0) {
                return THROWN_ARGUMENT;
            }
            int gone = 0;
            for (int i = jobs.size() - 1; i >= 0; i--) {
                Entry job = jobs.get(i);
                if (job.state != 0 && job.ended < (long) now - n && !isKept(job)) {
                    gone += prune(i);
                }
            }
            return gone;
        }

        private int jobOf(int job, int what) {
            if (!isJob(job) || what < 0 || what > 10) {
                return -1;
            }
            Entry e = jobs.get(job);
            int[] all = {e.series, e.level, e.upgraded, e.base, e.began, e.ended, e.state, e.pruned,
                e.told.size(), e.since, standing(job)};
            return all[what];
        }

        private int countOf(int what) {
            switch (what) {
                case 0: return now;
                case 1: return jobs.size();
                case 2: return (int) jobs.stream().filter(e -> e.state == 0).count();
                case 3: return (int) jobs.stream().filter(e -> e.pruned == 1).count();
                default: return -1;
            }
        }
    }
}
