/** The document's numbers by name, and ways to make jobs, for the tests that extend it. */
abstract class Jobs {
    static final int NONE = ChainPicker.NONE;

    static final int FULL = 0;
    static final int DIFF = 1;
    static final int INCR = 2;

    /** What job() is asked. */
    static final int OF_SERIES = 0;
    static final int LEVEL = 1;
    static final int UPGRADED = 2;
    static final int BASE = 3;
    static final int BEGAN = 4;
    static final int ENDED = 5;
    static final int STATE = 6;
    static final int PRUNED = 7;
    static final int TOLD = 8;
    static final int SINCE = 9;
    static final int STANDING = 10;

    static final int RUNS = 0;
    static final int GOOD = 1;
    static final int BAD = 2;

    /** What count() is asked. */
    static final int TIME = 0;
    static final int ALL = 1;
    static final int RUNNING = 2;
    static final int ALL_PRUNED = 3;

    static final int LEAST = Integer.MIN_VALUE;
    static final int MOST = Integer.MAX_VALUE;
    static final int END_OF_TIME = 1000000000;
    static final int LAST_VERSION = 1000000;
    static final int MAX_JOBS = 200;

    // The first one refused at each side, the ends of int, and what a mask would take for a right one.
    static final int[] NO_SERIES = {-1, 8, LEAST, MOST, -8, 256, 65536, 1 << 30};
    static final int[] NO_LEVEL = {-1, 3, LEAST, MOST, -2, 4, 256};
    static final int[] NO_FILE = {-1, 50, LEAST, MOST, -50, 64, 256, 65536};
    static final int[] NO_VERSION = {-2, LAST_VERSION + 1, LEAST, MOST, -1000000, 1 << 20};

    /** A job that begins and ends at once, GOOD. */
    static int good(ChainPicker x, int series, int level) {
        return ended(x, series, level, true);
    }

    static int bad(ChainPicker x, int series, int level) {
        return ended(x, series, level, false);
    }

    private static int ended(ChainPicker x, int series, int level, boolean good) {
        int job = x.begin(series, level);
        if (!x.end(job, good)) {
            throw new AssertionError("no job of series " + series + " and level " + level + " came to be");
        }
        return job;
    }

    /** A job that is told of one file and ends at once, GOOD. */
    static int goodTold(ChainPicker x, int series, int level, int file, int version) {
        int job = x.begin(series, level);
        if (!x.tell(job, file, version) || !x.end(job, true)) {
            throw new AssertionError("job " + job + " was not told, or did not end");
        }
        return job;
    }

    /** A FULL of series 1 with files 1, 2, 3, an INCR that changes 1 and loses 2, one that brings 2 back. */
    static ChainPicker threeLinks() {
        ChainPicker x = new ChainPicker();
        int full = x.begin(1, FULL);
        x.tell(full, 1, 11);
        x.tell(full, 2, 12);
        x.tell(full, 3, 0);
        x.end(full, true);
        x.pass(10);
        int lose = x.begin(1, INCR);
        x.tell(lose, 1, 21);
        x.tell(lose, 2, NONE);
        x.tell(lose, 4, NONE);
        x.end(lose, true);
        x.pass(10);
        int back = x.begin(1, INCR);
        x.tell(back, 2, 32);
        x.end(back, true);
        return x;
    }

    /** Each series has a GOOD FULL, number and version of file 0 being the series; ended at time 5. */
    static ChainPicker eightSeries() {
        ChainPicker x = new ChainPicker();
        x.pass(5);
        for (int series = 0; series < 8; series++) {
            goodTold(x, series, FULL, 0, series);
        }
        return x;
    }

    /** 200 jobs that ended BAD at time 0, 25 of each series. */
    static ChainPicker allJobs() {
        ChainPicker x = new ChainPicker();
        for (int i = 0; i < MAX_JOBS; i++) {
            bad(x, i % 8, FULL);
        }
        return x;
    }
}
