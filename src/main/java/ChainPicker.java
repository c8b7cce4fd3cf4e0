import java.util.Arrays;

/** Chains of backup jobs, what a series held at a time, and the pruning of old jobs. */
public final class ChainPicker {
    public static final int NONE = -1;

    private static final int LAST_TIME = 1000000000;
    private static final int SERIES = 8;
    private static final int MAX_JOBS = 200;
    private static final int FILES = 50;
    private static final int LAST_VERSION = 1000000;

    private static final int FULL = 0;
    private static final int INCR = 2;

    private static final int RUNS = 0;
    private static final int GOOD = 1;
    private static final int BAD = 2;

    // A file that is gone is kept as NONE, so that the view can answer what is kept.
    private static final int GONE = NONE;
    private static final int UNTOLD = -2;

    private int now;
    private int jobCount;

    // The jobs hang together from the latest to the first one. Time never goes back, so the
    // first fitting job of a walk is the one that began last, and of several at one time the
    // latest one.
    private Job latest;

    public ChainPicker() {
        now = 0;
        jobCount = 0;
        latest = null;
    }

    public int pass(int n) throws IllegalArgumentException {
        // The difference can't overflow where the sum could.
        if (n < 0 || n > LAST_TIME - now) {
            throw new IllegalArgumentException("time can't go on by that");
        }
        now += n;
        return now;
    }

    public int begin(int series, int level) {
        if (!isSeries(series) || !isLevel(level) || jobCount >= MAX_JOBS || hasRunning(series)) {
            return NONE;
        }
        Job base = findBase(series, level);
        if (base != null) {
            base.standing++;
        }
        latest = new Job(jobCount, series, level, base, now, latest);
        jobCount++;
        return latest.number;
    }

    public boolean tell(int job, int file, int version) {
        Job told = findJob(job);
        if (told == null || told.state != RUNS || !isFile(file)) {
            return false;
        }
        boolean fits = version == GONE ? told.level != FULL : isVersion(version);
        if (fits) {
            told.versions[file] = version;
        }
        return fits;
    }

    public boolean end(int job, boolean good) {
        Job ending = findJob(job);
        if (ending == null || ending.state != RUNS) {
            return false;
        }
        ending.state = good ? GOOD : BAD;
        ending.ended = now;
        return true;
    }

    public int chain(int series, int time) {
        int length = 0;
        for (Job job = findHead(series, time); job != null; job = job.base) {
            length++;
        }
        return length;
    }

    public int link(int series, int time, int i) throws IndexOutOfBoundsException {
        int place = 0;
        for (Job job = findHead(series, time); job != null; job = job.base) {
            if (place == i) {
                return job.number;
            }
            place++;
        }
        throw new IndexOutOfBoundsException("the chain has no such job");
    }

    public int view(int series, int time, int file) {
        return versionIn(findHead(series, time), file);
    }

    public int files(int series, int time) {
        Job head = findHead(series, time);
        int found = 0;
        for (int file = 0; file < FILES; file++) {
            if (versionIn(head, file) != NONE) {
                found++;
            }
        }
        return found;
    }

    public int source(int series, int time, int file) {
        Job teller = findTeller(findHead(series, time), file);
        return teller == null ? NONE : teller.number;
    }

    public boolean prune(int job) {
        Job old = findJob(job);
        if (old == null || !isFree(old)) {
            return false;
        }
        drop(old);
        return true;
    }

    public int expire(int n) throws IllegalArgumentException {
        if (n < 0) {
            throw new IllegalArgumentException("an age is not below 0");
        }
        int dropped = 0;
        // From the latest one on: what stood on a job is gone before the job's own turn.
        for (Job job = latest; job != null; job = job.earlier) {
            if (isFree(job) && now - job.ended > n && !isOnlyGoodFull(job)) {
                drop(job);
                dropped++;
            }
        }
        return dropped;
    }

    public int job(int job, int what) {
        Job asked = findJob(job);
        if (asked == null) {
            return NONE;
        }
        switch (what) {
            case 0: return asked.series;
            case 1: return asked.level;
            case 2: return asked.upgraded ? 1 : 0;
            case 3: return asked.base == null ? NONE : asked.base.number;
            case 4: return asked.began;
            case 5: return asked.ended;
            case 6: return asked.state;
            case 7: return asked.pruned ? 1 : 0;
            case 8: return countTold(asked);
            case 9: return asked.base == null ? NONE : asked.base.began;
            case 10: return asked.standing;
            default: return NONE;
        }
    }

    public int count(int what) {
        switch (what) {
            case 0: return now;
            case 1: return jobCount;
            case 2: return countRunning();
            case 3: return countPruned();
            default: return NONE;
        }
    }

    private static boolean isSeries(int series) {
        return series >= 0 && series < SERIES;
    }

    private static boolean isLevel(int level) {
        return level >= FULL && level <= INCR;
    }

    private static boolean isFile(int file) {
        return file >= 0 && file < FILES;
    }

    private static boolean isVersion(int version) {
        return version >= 0 && version <= LAST_VERSION;
    }

    /** The job of that number, or null. */
    private Job findJob(int number) {
        for (Job job = latest; job != null; job = job.earlier) {
            if (job.number == number) {
                return job;
            }
        }
        return null;
    }

    private boolean hasRunning(int series) {
        for (Job job = latest; job != null; job = job.earlier) {
            if (job.series == series && job.state == RUNS) {
                return true;
            }
        }
        return false;
    }

    /** What a job that begins now would stand on, or null. */
    private Job findBase(int series, int level) {
        if (level == FULL) {
            return null;
        }
        for (Job job = latest; job != null; job = job.earlier) {
            if (job.series == series && isUsable(job) && (level == INCR || job.level == FULL)) {
                return job;
            }
        }
        return null;
    }

    /** The job of the chain that began last, or null if there is no chain. */
    private Job findHead(int series, int time) {
        for (Job job = latest; job != null; job = job.earlier) {
            if (job.series == series && isUsable(job) && job.ended <= time) {
                return job;
            }
        }
        return null;
    }

    /** The job nearest to the chain's beginning that was told of the file, or null. */
    private static Job findTeller(Job head, int file) {
        if (!isFile(file)) {
            return null;
        }
        for (Job job = head; job != null; job = job.base) {
            if (job.versions[file] != UNTOLD) {
                return job;
            }
        }
        return null;
    }

    private static int versionIn(Job head, int file) {
        Job teller = findTeller(head, file);
        return teller == null ? NONE : teller.versions[file];
    }

    private static boolean isUsable(Job job) {
        return job.state == GOOD && !job.pruned;
    }

    private static boolean isFree(Job job) {
        return job.state != RUNS && !job.pruned && job.standing == 0;
    }

    private boolean isOnlyGoodFull(Job full) {
        if (full.level != FULL || !isUsable(full)) {
            return false;
        }
        for (Job job = latest; job != null; job = job.earlier) {
            if (job != full && job.series == full.series && job.level == FULL && isUsable(job)) {
                return false;
            }
        }
        return true;
    }

    private static void drop(Job job) {
        job.pruned = true;
        Arrays.fill(job.versions, UNTOLD);
        if (job.base != null) {
            job.base.standing--;
        }
    }

    private static int countTold(Job job) {
        int told = 0;
        for (int file = 0; file < FILES; file++) {
            if (job.versions[file] != UNTOLD) {
                told++;
            }
        }
        return told;
    }

    private int countRunning() {
        int running = 0;
        for (Job job = latest; job != null; job = job.earlier) {
            if (job.state == RUNS) {
                running++;
            }
        }
        return running;
    }

    private int countPruned() {
        int pruned = 0;
        for (Job job = latest; job != null; job = job.earlier) {
            if (job.pruned) {
                pruned++;
            }
        }
        return pruned;
    }

    private static final class Job {
        private final int number;
        private final int series;
        private final int level;
        private final boolean upgraded;
        private final Job base;
        private final int began;
        private final Job earlier;
        private final int[] versions;
        private int ended;
        private int state;
        private boolean pruned;
        // How many jobs that are not pruned have this one as their base.
        private int standing;

        private Job(int number, int series, int wanted, Job base, int began, Job earlier) {
            this.number = number;
            this.series = series;
            // Without a base every job is a full one, whatever was wanted.
            this.level = base == null ? FULL : wanted;
            this.upgraded = base == null && wanted != FULL;
            this.base = base;
            this.began = began;
            this.earlier = earlier;
            this.versions = new int[FILES];
            Arrays.fill(this.versions, UNTOLD);
            this.ended = NONE;
            this.state = RUNS;
            this.pruned = false;
            this.standing = 0;
        }
    }
}
