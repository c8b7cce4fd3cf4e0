/**
 * The boundary cases of the promises, a method for each sentence that names one: the last value
 * that is taken, the first that is refused, the smallest and the largest int.
 */
public final class BoundsTest extends Jobs {
    private static final Check CHECK = new Check("BoundsTest");

    public static void main(String[] args) {
        newObjectHasNoJobs();
        newObjectIsAtTime0();
        passBelow0();
        passAbove1000000000();
        passWrapsNotAround();
        beginOfNoSuchSeries();
        beginOfNoSuchLevel();
        beginWhileOneRuns();
        beginWhenThereAre200();
        beginWhen200ArePruned();
        tellNoSuchJob();
        tellWhatDoesNotRun();
        tellOfNoSuchFile();
        tellOfNoSuchVersion();
        tellFullOfGone();
        endNoSuchJob();
        endWhatDoesNotRun();
        chainIfThereIsNone();
        chainAtItsTime();
        chainOfNoSuchSeries();
        linkOutOfItsChain();
        linkOfNoChain();
        linkOfTheLongestChain();
        viewOfWhatIsNotThere();
        viewOfNoSuchFile();
        viewOfNoChain();
        filesFromNoneToAll();
        filesOfNoChain();
        sourceOfWhatNoneWasTold();
        sourceOfNoSuchFile();
        sourceOfNoChain();
        pruneNoSuchJob();
        pruneWhatRunsOrIsPruned();
        pruneWhatIsABase();
        expireBelow0();
        expireAtItsAge();
        expireAtTheEndsOfTime();
        jobIfThereIsNoneSuch();
        jobOfNoSuchWhat();
        jobAtItsBounds();
        countOfAnotherWhat();
        countAtItsBounds();
        CHECK.finish();
    }

    // Promise 1

    private static void newObjectHasNoJobs() {
        ChainPicker x = new ChainPicker();
        CHECK.same("new: jobs", x.count(ALL), 0);
        CHECK.same("new: running", x.count(RUNNING), 0);
        CHECK.same("new: pruned", x.count(ALL_PRUNED), 0);
        for (int what = 0; what <= 10; what++) {
            CHECK.same("new: job(0, " + what + ")", x.job(0, what), NONE);
        }
        for (int series = 0; series < 8; series++) {
            int s = series;
            CHECK.same("new: chain", x.chain(series, MOST), 0);
            CHECK.badIndex("new: link", () -> x.link(s, MOST, 0));
            CHECK.same("new: view", x.view(series, MOST, 0), NONE);
            CHECK.same("new: files", x.files(series, MOST), 0);
            CHECK.same("new: source", x.source(series, MOST, 0), NONE);
        }
        CHECK.no("new: tell", x.tell(0, 0, 0));
        CHECK.no("new: end", x.end(0, true));
        CHECK.no("new: prune", x.prune(0));
        CHECK.same("new: expire", x.expire(0), 0);
        CHECK.same("new: the first job's number", x.begin(0, FULL), 0);
    }

    private static void newObjectIsAtTime0() {
        ChainPicker x = new ChainPicker();
        CHECK.same("new: time", x.count(TIME), 0);
        int job = good(x, 0, FULL);
        CHECK.same("new: a job begins at 0", x.job(job, BEGAN), 0);
        CHECK.same("new: a job ends at 0", x.job(job, ENDED), 0);
        CHECK.same("new: pass(0)", x.pass(0), 0);
        CHECK.same("new: pass(1)", x.pass(1), 1);
        CHECK.same("a second new one: time", new ChainPicker().count(TIME), 0);
        CHECK.same("a second new one: jobs", new ChainPicker().count(ALL), 0);
    }

    // Promise 2

    private static void passBelow0() {
        for (int start : new int[] {0, 1, 7, END_OF_TIME}) {
            ChainPicker x = new ChainPicker();
            x.pass(start);
            for (int n : new int[] {-1, -2, -7, -END_OF_TIME, -MOST, LEAST}) {
                CHECK.badArgument("pass(" + n + ") at " + start, () -> x.pass(n));
                CHECK.same("time after pass(" + n + ")", x.count(TIME), start);
            }
            CHECK.same("pass(0) at " + start, x.pass(0), start);
            CHECK.same("time after pass(0)", x.count(TIME), start);
        }
    }

    private static void passAbove1000000000() {
        for (int start : new int[] {0, 1, 2, 500000000, END_OF_TIME - 1, END_OF_TIME}) {
            ChainPicker x = new ChainPicker();
            CHECK.same("pass from 0", x.pass(start), start);
            int left = END_OF_TIME - start;
            CHECK.badArgument("one too many at " + start, () -> x.pass(left + 1));
            CHECK.same("time after one too many", x.count(TIME), start);
            CHECK.same("just enough at " + start, x.pass(left), END_OF_TIME);
            CHECK.same("time at the end", x.count(TIME), END_OF_TIME);
            CHECK.badArgument("pass(1) at the end", () -> x.pass(1));
            CHECK.same("pass(0) at the end", x.pass(0), END_OF_TIME);
        }
    }

    /** Sums that pass the largest int must not come out as small times. */
    private static void passWrapsNotAround() {
        for (int start : new int[] {0, 1, 999999999, END_OF_TIME}) {
            ChainPicker x = new ChainPicker();
            x.pass(start);
            int[] large = {MOST, MOST - 1, MOST - start, Math.max(MOST - start, MOST - start + 1)};
            for (int n : large) {
                CHECK.badArgument("pass(" + n + ") at " + start, () -> x.pass(n));
                CHECK.same("time after pass(" + n + ")", x.count(TIME), start);
            }
        }
    }

    // Promise 3

    private static void beginOfNoSuchSeries() {
        for (int level = FULL; level <= INCR; level++) {
            ChainPicker x = new ChainPicker();
            for (int series : NO_SERIES) {
                CHECK.same("begin(" + series + ", " + level + ")", x.begin(series, level), NONE);
            }
            CHECK.same("jobs after no such series", x.count(ALL), 0);
            CHECK.same("the first series", x.begin(0, level), 0);
            CHECK.same("the last series", x.begin(7, level), 1);
            CHECK.same("begin(-1) beside them", x.begin(-1, level), NONE);
            CHECK.same("begin(8) beside them", x.begin(8, level), NONE);
            CHECK.same("jobs", x.count(ALL), 2);
            CHECK.same("of the last series", x.job(1, OF_SERIES), 7);
        }
    }

    private static void beginOfNoSuchLevel() {
        ChainPicker x = new ChainPicker();
        good(x, 0, FULL);
        for (int level : NO_LEVEL) {
            CHECK.same("begin(0, " + level + ")", x.begin(0, level), NONE);
            CHECK.same("begin(3, " + level + ")", x.begin(3, level), NONE);
        }
        CHECK.same("jobs after no such level", x.count(ALL), 1);
        CHECK.same("running after no such level", x.count(RUNNING), 0);
        CHECK.same("no one stands on it", x.job(0, STANDING), 0);
        for (int level = FULL; level <= INCR; level++) {
            int job = good(x, 0, level);
            CHECK.same("number of level " + level, job, level + 1);
            CHECK.same("level " + level, x.job(job, LEVEL), level);
        }
    }

    private static void beginWhileOneRuns() {
        for (int first = FULL; first <= INCR; first++) {
            ChainPicker x = new ChainPicker();
            good(x, 4, FULL);
            int running = x.begin(4, first);
            x.begin(5, FULL);
            for (int level = FULL; level <= INCR; level++) {
                CHECK.same("begin while one runs", x.begin(4, level), NONE);
            }
            x.pass(1);
            CHECK.same("begin while one runs, later", x.begin(4, FULL), NONE);
            CHECK.same("jobs", x.count(ALL), 3);
            CHECK.same("another series", x.begin(6, FULL), 3);
            x.end(running, first == DIFF);
            CHECK.same("begin when it has ended", x.begin(4, first), 4);
            CHECK.same("begin while the next runs", x.begin(4, first), NONE);
        }
    }

    private static void beginWhenThereAre200() {
        ChainPicker x = new ChainPicker();
        for (int i = 0; i < MAX_JOBS - 1; i++) {
            good(x, 0, FULL);
        }
        CHECK.same("jobs before the last", x.count(ALL), 199);
        CHECK.same("the 200th", x.begin(7, FULL), 199);
        for (int series = 0; series < 8; series++) {
            for (int level = FULL; level <= INCR; level++) {
                CHECK.same("the 201st of series " + series, x.begin(series, level), NONE);
            }
        }
        CHECK.yes("the 200th may end", x.end(199, true));
        CHECK.same("the 201st after its end", x.begin(7, INCR), NONE);
        CHECK.same("no one stands on the 200th", x.job(199, STANDING), 0);
        CHECK.same("jobs", x.count(ALL), 200);
        CHECK.same("running", x.count(RUNNING), 0);
    }

    private static void beginWhen200ArePruned() {
        ChainPicker x = allJobs();
        x.pass(1);
        CHECK.yes("the last one goes", x.prune(199));
        CHECK.same("the 201st after a prune", x.begin(0, FULL), NONE);
        CHECK.same("the others go", x.expire(0), 199);
        CHECK.same("the 201st after expire", x.begin(0, FULL), NONE);
        CHECK.same("the 201st of the last series", x.begin(7, INCR), NONE);
        CHECK.same("jobs", x.count(ALL), 200);
    }

    // Promise 4

    private static void tellNoSuchJob() {
        ChainPicker x = new ChainPicker();
        x.begin(0, FULL);
        x.begin(1, FULL);
        for (int job : new int[] {-1, 2, LEAST, MOST, 199, 200, 256}) {
            CHECK.no("tell(" + job + ")", x.tell(job, 3, 4));
        }
        CHECK.same("the first is told of nothing", x.job(0, TOLD), 0);
        CHECK.same("the last is told of nothing", x.job(1, TOLD), 0);
        CHECK.yes("tell the first", x.tell(0, 3, 4));
        CHECK.yes("tell the last", x.tell(1, 3, 4));
    }

    private static void tellWhatDoesNotRun() {
        ChainPicker x = new ChainPicker();
        int full = goodTold(x, 0, FULL, 3, 30);
        int bad = bad(x, 0, INCR);
        int pruned = good(x, 0, INCR);
        x.prune(pruned);
        for (int job : new int[] {full, bad, pruned}) {
            for (int version : new int[] {NONE, 0, 31, LAST_VERSION}) {
                CHECK.no("tell(" + job + ", 3, " + version + ")", x.tell(job, 3, version));
                CHECK.no("tell(" + job + ", 4, " + version + ")", x.tell(job, 4, version));
            }
        }
        CHECK.same("the good one is told of one file", x.job(full, TOLD), 1);
        CHECK.same("the bad one is told of none", x.job(bad, TOLD), 0);
        CHECK.same("the pruned one is told of none", x.job(pruned, TOLD), 0);
        CHECK.same("its version", x.view(0, 0, 3), 30);
        CHECK.same("a file it was not told of", x.view(0, 0, 4), NONE);
        int running = x.begin(0, INCR);
        CHECK.yes("one that runs", x.tell(running, 3, 31));
    }

    private static void tellOfNoSuchFile() {
        ChainPicker x = new ChainPicker();
        good(x, 0, FULL);
        int incr = x.begin(0, INCR);
        for (int file : NO_FILE) {
            CHECK.no("tell of file " + file, x.tell(incr, file, 5));
            CHECK.no("tell of file " + file + " gone", x.tell(incr, file, NONE));
        }
        CHECK.same("told of none", x.job(incr, TOLD), 0);
        CHECK.yes("the first file", x.tell(incr, 0, 5));
        CHECK.yes("the last file", x.tell(incr, 49, 6));
        CHECK.same("told of two", x.job(incr, TOLD), 2);
        x.end(incr, true);
        CHECK.same("the first file's version", x.view(0, 0, 0), 5);
        CHECK.same("the last file's version", x.view(0, 0, 49), 6);
    }

    private static void tellOfNoSuchVersion() {
        for (int level = FULL; level <= INCR; level++) {
            ChainPicker x = new ChainPicker();
            good(x, 0, FULL);
            int job = x.begin(0, level);
            x.tell(job, 1, 77);
            for (int version : NO_VERSION) {
                CHECK.no("version " + version, x.tell(job, 1, version));
                CHECK.no("version " + version + " of another", x.tell(job, 2, version));
            }
            CHECK.same("told of one", x.job(job, TOLD), 1);
            CHECK.yes("the first version", x.tell(job, 3, 0));
            CHECK.yes("the last version", x.tell(job, 4, LAST_VERSION));
            CHECK.yes("the last but one", x.tell(job, 5, LAST_VERSION - 1));
            x.end(job, true);
            CHECK.same("what it was told first holds", x.view(0, 0, 1), 77);
            CHECK.same("refused ones", x.view(0, 0, 2), NONE);
            CHECK.same("the first version's view", x.view(0, 0, 3), 0);
            CHECK.same("the last version's view", x.view(0, 0, 4), LAST_VERSION);
            CHECK.same("the last but one's view", x.view(0, 0, 5), LAST_VERSION - 1);
        }
    }

    private static void tellFullOfGone() {
        ChainPicker x = new ChainPicker();
        // The first of a series is UPGRADED, and a FULL by that; its number is its series here.
        int[] fulls = {x.begin(0, FULL), x.begin(1, DIFF), x.begin(2, INCR)};
        for (int full : fulls) {
            CHECK.no("gone before any version", x.tell(full, 0, NONE));
            CHECK.same("told of none", x.job(full, TOLD), 0);
            CHECK.yes("a version", x.tell(full, 0, 8));
            CHECK.no("gone after a version", x.tell(full, 0, NONE));
            CHECK.no("gone, another file", x.tell(full, 49, NONE));
            CHECK.same("told of one", x.job(full, TOLD), 1);
            x.end(full, true);
            CHECK.same("the version holds", x.view(full, 0, 0), 8);
            CHECK.same("the other file", x.source(full, 0, 49), NONE);
        }
        int diff = x.begin(0, DIFF);
        int incr = x.begin(1, INCR);
        int full = x.begin(2, FULL);
        CHECK.yes("a diff", x.tell(diff, 0, NONE));
        CHECK.yes("an incr", x.tell(incr, 0, NONE));
        CHECK.no("a full beside other fulls", x.tell(full, 0, NONE));
    }

    // Promise 5

    private static void endNoSuchJob() {
        ChainPicker x = new ChainPicker();
        x.begin(0, FULL);
        x.begin(1, FULL);
        for (int job : new int[] {-1, 2, LEAST, MOST, 199, 200, 256}) {
            CHECK.no("end(" + job + ", true)", x.end(job, true));
            CHECK.no("end(" + job + ", false)", x.end(job, false));
        }
        CHECK.same("both run", x.count(RUNNING), 2);
        CHECK.yes("end the first", x.end(0, true));
        CHECK.yes("end the last", x.end(1, false));
        CHECK.same("none runs", x.count(RUNNING), 0);
    }

    private static void endWhatDoesNotRun() {
        ChainPicker x = new ChainPicker();
        int full = good(x, 0, FULL);
        int bad = bad(x, 0, INCR);
        int pruned = good(x, 0, INCR);
        x.prune(pruned);
        x.pass(9);
        for (int job : new int[] {full, bad, pruned}) {
            int state = job == bad ? BAD : GOOD;
            CHECK.no("end(" + job + ", true) again", x.end(job, true));
            CHECK.no("end(" + job + ", false) again", x.end(job, false));
            CHECK.same("state of " + job, x.job(job, STATE), state);
            CHECK.same("end of " + job, x.job(job, ENDED), 0);
        }
        CHECK.same("the pruned one stays so", x.job(pruned, PRUNED), 1);
    }

    // Promise 6

    private static void chainIfThereIsNone() {
        ChainPicker x = new ChainPicker();
        CHECK.same("no job", x.chain(0, MOST), 0);
        int first = x.begin(0, FULL);
        CHECK.same("one that runs", x.chain(0, MOST), 0);
        x.end(first, false);
        CHECK.same("a bad one", x.chain(0, MOST), 0);
        int second = good(x, 0, FULL);
        CHECK.same("a good one", x.chain(0, MOST), 1);
        x.prune(second);
        CHECK.same("a pruned one", x.chain(0, MOST), 0);
        good(x, 1, FULL);
        CHECK.same("one of another series", x.chain(0, MOST), 0);
    }

    private static void chainAtItsTime() {
        ChainPicker x = new ChainPicker();
        int first = good(x, 0, FULL);
        int second = x.begin(0, INCR);
        x.pass(END_OF_TIME - 1);
        x.end(second, true);
        int third = x.begin(0, INCR);
        x.pass(1);
        x.end(third, true);
        int[] times = {LEAST, -1, 0, 1, END_OF_TIME - 2, END_OF_TIME - 1, END_OF_TIME, END_OF_TIME + 1, MOST};
        int[] lengths = {0, 0, 1, 1, 1, 2, 3, 3, 3};
        for (int i = 0; i < times.length; i++) {
            CHECK.same("chain(0, " + times[i] + ")", x.chain(0, times[i]), lengths[i]);
        }
        CHECK.same("the first one's head", x.link(0, END_OF_TIME - 2, 0), first);
    }

    private static void chainOfNoSuchSeries() {
        ChainPicker x = eightSeries();
        for (int series : NO_SERIES) {
            CHECK.same("chain(" + series + ", 5)", x.chain(series, 5), 0);
            CHECK.same("chain(" + series + ", most)", x.chain(series, MOST), 0);
            CHECK.same("chain(" + series + ", least)", x.chain(series, LEAST), 0);
        }
        CHECK.same("the first series", x.chain(0, 5), 1);
        CHECK.same("the last series", x.chain(7, 5), 1);
    }

    // Promise 7

    private static void linkOutOfItsChain() {
        ChainPicker x = threeLinks();
        int[] times = {0, 9, 10, 19, 20, MOST};
        int[] lengths = {1, 1, 2, 2, 3, 3};
        for (int k = 0; k < times.length; k++) {
            int time = times[k];
            int length = lengths[k];
            for (int i = 0; i < length; i++) {
                CHECK.same("link(1, " + time + ", " + i + ")", x.link(1, time, i), length - 1 - i);
            }
            for (int i : new int[] {-1, length, length + 1, LEAST, MOST, 200}) {
                CHECK.badIndex("link(1, " + time + ", " + i + ")", () -> x.link(1, time, i));
            }
        }
    }

    private static void linkOfNoChain() {
        ChainPicker x = eightSeries();
        for (int i : new int[] {0, -1, 1, LEAST, MOST}) {
            for (int series : NO_SERIES) {
                CHECK.badIndex("link(" + series + ", 5, " + i + ")", () -> x.link(series, 5, i));
            }
            for (int time : new int[] {LEAST, -1, 0, 4}) {
                CHECK.badIndex("link(7, " + time + ", " + i + ")", () -> x.link(7, time, i));
            }
        }
        CHECK.same("the first series", x.link(0, 5, 0), 0);
        CHECK.same("the last series", x.link(7, 5, 0), 7);
        ChainPicker y = new ChainPicker();
        CHECK.badIndex("no job", () -> y.link(0, 0, 0));
        int job = y.begin(0, FULL);
        CHECK.badIndex("one that runs", () -> y.link(0, 0, 0));
        y.end(job, false);
        CHECK.badIndex("a bad one", () -> y.link(0, 0, 0));
        int next = good(y, 0, FULL);
        CHECK.same("a good one", y.link(0, 0, 0), next);
        y.prune(next);
        CHECK.badIndex("a pruned one", () -> y.link(0, 0, 0));
    }

    private static void linkOfTheLongestChain() {
        ChainPicker x = new ChainPicker();
        goodTold(x, 0, FULL, 49, LAST_VERSION);
        for (int i = 1; i < MAX_JOBS; i++) {
            good(x, 0, INCR);
        }
        CHECK.same("its length", x.chain(0, 0), 200);
        CHECK.same("its head", x.link(0, 0, 0), 199);
        CHECK.same("its middle", x.link(0, 0, 100), 99);
        CHECK.same("its full", x.link(0, 0, 199), 0);
        CHECK.badIndex("behind its full", () -> x.link(0, 0, 200));
        CHECK.badIndex("ahead of its head", () -> x.link(0, 0, -1));
        CHECK.same("the view through it", x.view(0, 0, 49), LAST_VERSION);
        CHECK.same("the source through it", x.source(0, 0, 49), 0);
        CHECK.same("the files through it", x.files(0, 0), 1);
        CHECK.same("its head's base", x.job(199, BASE), 198);
    }

    // Promise 8

    private static void viewOfWhatIsNotThere() {
        ChainPicker x = threeLinks();
        CHECK.same("told of by none", x.view(1, 20, 5), NONE);
        CHECK.same("told of by none, the first file", x.view(1, 20, 0), NONE);
        CHECK.same("told of by none, the last file", x.view(1, 20, 49), NONE);
        CHECK.same("there, ahead of its going", x.view(1, 9, 2), 12);
        CHECK.same("gone", x.view(1, 10, 2), NONE);
        CHECK.same("back again", x.view(1, 20, 2), 32);
        CHECK.same("gone, never there before", x.view(1, 20, 4), NONE);
        CHECK.same("version 0 is there", x.view(1, 20, 3), 0);
    }

    private static void viewOfNoSuchFile() {
        ChainPicker x = new ChainPicker();
        int full = x.begin(0, FULL);
        for (int file = 0; file < 50; file++) {
            x.tell(full, file, 100 + file);
        }
        x.end(full, true);
        for (int file : NO_FILE) {
            CHECK.same("view of file " + file, x.view(0, 0, file), NONE);
        }
        CHECK.same("the first file", x.view(0, 0, 0), 100);
        CHECK.same("the last file", x.view(0, 0, 49), 149);
    }

    private static void viewOfNoChain() {
        ChainPicker x = eightSeries();
        for (int series : NO_SERIES) {
            CHECK.same("view of series " + series, x.view(series, 5, 0), NONE);
            CHECK.same("view of series " + series + " and no file", x.view(series, 5, -1), NONE);
        }
        for (int time : new int[] {LEAST, -1, 0, 4}) {
            CHECK.same("view at " + time, x.view(7, time, 0), NONE);
            CHECK.same("view of no file at " + time, x.view(7, time, 50), NONE);
        }
        CHECK.same("the first series", x.view(0, 5, 0), 0);
        CHECK.same("the last series", x.view(7, 5, 0), 7);
        CHECK.same("later than now", x.view(7, MOST, 0), 7);
        x.prune(7);
        CHECK.same("the last series, pruned", x.view(7, MOST, 0), NONE);
    }

    // Promise 9

    private static void filesFromNoneToAll() {
        ChainPicker x = new ChainPicker();
        good(x, 0, FULL);
        CHECK.same("a chain that was told of nothing", x.files(0, 0), 0);
        int all = x.begin(0, INCR);
        for (int file = 0; file < 50; file++) {
            x.tell(all, file, 0);
        }
        x.end(all, true);
        CHECK.same("all files", x.files(0, 0), 50);
        goodTold(x, 0, INCR, 0, 9);
        CHECK.same("one of them told again", x.files(0, 0), 50);
        goodTold(x, 0, INCR, 49, NONE);
        CHECK.same("one of them gone", x.files(0, 0), 49);
        goodTold(x, 0, INCR, 49, NONE);
        CHECK.same("it can't go twice", x.files(0, 0), 49);
        goodTold(x, 0, INCR, 49, 3);
        CHECK.same("back again", x.files(0, 0), 50);
        int none = x.begin(0, INCR);
        for (int file = 0; file < 50; file++) {
            x.tell(none, file, NONE);
        }
        x.end(none, true);
        CHECK.same("all gone", x.files(0, 0), 0);
        good(x, 0, DIFF);
        CHECK.same("a diff on a full that was told of nothing", x.files(0, 0), 0);
    }

    private static void filesOfNoChain() {
        ChainPicker x = eightSeries();
        for (int series : NO_SERIES) {
            CHECK.same("files of series " + series, x.files(series, 5), 0);
        }
        for (int time : new int[] {LEAST, -1, 0, 4}) {
            CHECK.same("files at " + time, x.files(7, time), 0);
        }
        CHECK.same("the first series", x.files(0, 5), 1);
        CHECK.same("the last series", x.files(7, 5), 1);
        CHECK.same("later than now", x.files(7, MOST), 1);
        int running = x.begin(6, FULL);
        x.tell(running, 1, 1);
        x.tell(running, 2, 1);
        CHECK.same("one that runs adds none", x.files(6, 5), 1);
        x.end(running, false);
        CHECK.same("a bad one adds none", x.files(6, 5), 1);
        x.prune(7);
        CHECK.same("the last series, pruned", x.files(7, 5), 0);
    }

    // Promise 10

    private static void sourceOfWhatNoneWasTold() {
        ChainPicker x = threeLinks();
        CHECK.same("told of by none", x.source(1, 20, 5), NONE);
        CHECK.same("told of by none, the first file", x.source(1, 20, 0), NONE);
        CHECK.same("told of by none, the last file", x.source(1, 20, 49), NONE);
        CHECK.same("job 0 told of version 0", x.source(1, 20, 3), 0);
        CHECK.same("gone by job 1", x.source(1, 10, 2), 1);
        CHECK.same("gone, never there before", x.source(1, 20, 4), 1);
        CHECK.same("ahead of that", x.source(1, 9, 4), NONE);
        CHECK.same("back by job 2", x.source(1, 20, 2), 2);
        int running = x.begin(1, INCR);
        x.tell(running, 5, 5);
        CHECK.same("told of by one that runs", x.source(1, 20, 5), NONE);
        x.end(running, false);
        CHECK.same("told of by a bad one", x.source(1, 20, 5), NONE);
        good(x, 1, DIFF);
        CHECK.same("told of by an incr that is not in the chain", x.source(1, 20, 4), NONE);
    }

    private static void sourceOfNoSuchFile() {
        ChainPicker x = new ChainPicker();
        int full = x.begin(0, FULL);
        for (int file = 0; file < 50; file++) {
            x.tell(full, file, 1);
        }
        x.end(full, true);
        for (int file : NO_FILE) {
            CHECK.same("source of file " + file, x.source(0, 0, file), NONE);
        }
        CHECK.same("the first file", x.source(0, 0, 0), full);
        CHECK.same("the last file", x.source(0, 0, 49), full);
    }

    private static void sourceOfNoChain() {
        ChainPicker x = eightSeries();
        for (int series : NO_SERIES) {
            CHECK.same("source of series " + series, x.source(series, 5, 0), NONE);
            CHECK.same("source of series " + series + " and no file", x.source(series, 5, -1), NONE);
        }
        for (int time : new int[] {LEAST, -1, 0, 4}) {
            CHECK.same("source at " + time, x.source(7, time, 0), NONE);
            CHECK.same("source of no file at " + time, x.source(7, time, 50), NONE);
        }
        CHECK.same("the first series", x.source(0, 5, 0), 0);
        CHECK.same("the last series", x.source(7, 5, 0), 7);
        CHECK.same("later than now", x.source(7, MOST, 0), 7);
        x.prune(7);
        CHECK.same("the last series, pruned", x.source(7, MOST, 0), NONE);
    }

    // Promise 11

    private static void pruneNoSuchJob() {
        ChainPicker x = new ChainPicker();
        good(x, 0, FULL);
        good(x, 1, FULL);
        for (int job : new int[] {-1, 2, LEAST, MOST, 199, 200, 256}) {
            CHECK.no("prune(" + job + ")", x.prune(job));
        }
        CHECK.same("none has gone", x.count(ALL_PRUNED), 0);
        CHECK.yes("prune the first", x.prune(0));
        CHECK.yes("prune the last", x.prune(1));
        CHECK.same("both have gone", x.count(ALL_PRUNED), 2);
    }

    private static void pruneWhatRunsOrIsPruned() {
        for (int level = FULL; level <= INCR; level++) {
            for (int end = 0; end < 2; end++) {
                ChainPicker x = new ChainPicker();
                good(x, 0, FULL);
                int job = x.begin(0, level);
                CHECK.no("one that runs", x.prune(job));
                CHECK.same("it is not pruned", x.job(job, PRUNED), 0);
                CHECK.same("it runs still", x.job(job, STATE), RUNS);
                x.end(job, end == 1);
                CHECK.yes("one that has ended", x.prune(job));
                CHECK.no("one that is pruned", x.prune(job));
                CHECK.no("one that is pruned, a third time", x.prune(job));
                CHECK.same("one has gone", x.count(ALL_PRUNED), 1);
                CHECK.same("no one stands on the full", x.job(0, STANDING), 0);
            }
        }
    }

    private static void pruneWhatIsABase() {
        for (int level = DIFF; level <= INCR; level++) {
            for (int end = 0; end < 3; end++) {
                ChainPicker x = new ChainPicker();
                int base = good(x, 0, FULL);
                int top = x.begin(0, level);
                if (end != RUNS) {
                    x.end(top, end == GOOD);
                }
                CHECK.no("the base of one in state " + end, x.prune(base));
                CHECK.same("the base is not pruned", x.job(base, PRUNED), 0);
                if (end == RUNS) {
                    x.end(top, true);
                    CHECK.no("the base when it has ended", x.prune(base));
                }
                CHECK.yes("what stands on it", x.prune(top));
                CHECK.yes("the base then", x.prune(base));
            }
        }
    }

    // Promise 12

    private static void expireBelow0() {
        ChainPicker x = new ChainPicker();
        int bad = bad(x, 0, FULL);
        for (int n : new int[] {-1, -2, -END_OF_TIME, -MOST, LEAST}) {
            CHECK.badArgument("expire(" + n + ")", () -> x.expire(n));
            CHECK.same("the bad one stays", x.job(bad, PRUNED), 0);
        }
        CHECK.same("expire(0) of what ended now", x.expire(0), 0);
        x.pass(END_OF_TIME);
        CHECK.badArgument("expire(-1) at the end", () -> x.expire(-1));
        CHECK.badArgument("expire(least) at the end", () -> x.expire(LEAST));
        CHECK.same("the bad one stays still", x.job(bad, PRUNED), 0);
        CHECK.same("expire(0) at the end", x.expire(0), 1);
        CHECK.badArgument("expire(-1) with none left", () -> x.expire(-1));
        CHECK.badArgument("expire(-1) of a new object", () -> new ChainPicker().expire(-1));
        CHECK.same("expire(0) of a new object", new ChainPicker().expire(0), 0);
        CHECK.same("expire(most) of a new object", new ChainPicker().expire(MOST), 0);
    }

    private static void expireAtItsAge() {
        for (int age = 0; age < 4; age++) {
            ChainPicker x = new ChainPicker();
            x.pass(6);
            int bad = x.begin(0, FULL);
            x.pass(2);
            x.end(bad, false);
            x.pass(age);
            CHECK.same("just n ahead", x.expire(age), 0);
            CHECK.same("less than n ahead", x.expire(age + 1), 0);
            CHECK.same("it stays", x.job(bad, PRUNED), 0);
            x.pass(1);
            CHECK.same("more than n ahead", x.expire(age), 1);
            CHECK.same("it goes", x.job(bad, PRUNED), 1);
            CHECK.same("it can't go twice", x.expire(0), 0);
        }
    }

    private static void expireAtTheEndsOfTime() {
        ChainPicker x = new ChainPicker();
        int first = bad(x, 0, FULL);
        x.pass(1);
        int second = bad(x, 0, FULL);
        x.pass(END_OF_TIME - 1);
        int third = bad(x, 0, FULL);
        // An end plus one of these n is beyond the largest int.
        CHECK.same("expire(most)", x.expire(MOST), 0);
        CHECK.same("expire(most - 1)", x.expire(MOST - 1), 0);
        CHECK.same("expire(1147483648)", x.expire(1147483648), 0);
        CHECK.same("the whole of time", x.expire(END_OF_TIME), 0);
        CHECK.same("one less", x.expire(END_OF_TIME - 1), 1);
        CHECK.same("the first has gone", x.job(first, PRUNED), 1);
        CHECK.same("the second has not", x.job(second, PRUNED), 0);
        CHECK.same("two less", x.expire(END_OF_TIME - 2), 1);
        CHECK.same("the second has gone", x.job(second, PRUNED), 1);
        CHECK.same("expire(0)", x.expire(0), 0);
        CHECK.same("the third has not", x.job(third, PRUNED), 0);
    }

    // Promise 13

    private static void jobIfThereIsNoneSuch() {
        ChainPicker x = new ChainPicker();
        x.begin(0, FULL);
        x.begin(1, FULL);
        for (int job : new int[] {-1, 2, LEAST, MOST, 199, 200, 256}) {
            for (int what = 0; what <= 10; what++) {
                CHECK.same("job(" + job + ", " + what + ")", x.job(job, what), NONE);
            }
            CHECK.same("job(" + job + ", -1)", x.job(job, -1), NONE);
            CHECK.same("job(" + job + ", 11)", x.job(job, 11), NONE);
        }
        CHECK.same("the first", x.job(0, OF_SERIES), 0);
        CHECK.same("the last", x.job(1, OF_SERIES), 1);
        ChainPicker y = allJobs();
        CHECK.same("the last of 200", y.job(199, OF_SERIES), 7);
        CHECK.same("behind it", y.job(200, OF_SERIES), NONE);
    }

    private static void jobOfNoSuchWhat() {
        ChainPicker x = new ChainPicker();
        int full = good(x, 3, FULL);
        int running = x.begin(3, INCR);
        x.begin(4, FULL);
        for (int job = 0; job < 3; job++) {
            for (int what : new int[] {-1, 11, LEAST, MOST, -10, 12, 16, 256}) {
                CHECK.same("job(" + job + ", " + what + ")", x.job(job, what), NONE);
            }
        }
        CHECK.same("the first what", x.job(running, OF_SERIES), 3);
        CHECK.same("the last what", x.job(full, STANDING), 1);
    }

    /** Each what at its smallest and at its largest. */
    private static void jobAtItsBounds() {
        ChainPicker x = new ChainPicker();
        int full = good(x, 7, FULL);
        x.pass(END_OF_TIME);
        int late = good(x, 7, DIFF);
        int later = x.begin(7, INCR);
        for (int file = 0; file < 50; file++) {
            x.tell(later, file, NONE);
        }
        int[] ofFull = {7, FULL, 0, NONE, 0, 0, GOOD, 0, 0, NONE, 1};
        int[] ofLate = {7, DIFF, 0, full, END_OF_TIME, END_OF_TIME, GOOD, 0, 0, 0, 1};
        int[] ofLater = {7, INCR, 0, late, END_OF_TIME, NONE, RUNS, 0, 50, END_OF_TIME, 0};
        for (int what = 0; what <= 10; what++) {
            CHECK.same("job(full, " + what + ")", x.job(full, what), ofFull[what]);
            CHECK.same("job(late, " + what + ")", x.job(late, what), ofLate[what]);
            CHECK.same("job(later, " + what + ")", x.job(later, what), ofLater[what]);
        }
        int first = x.begin(0, INCR);
        int[] ofFirst = {0, FULL, 1, NONE, END_OF_TIME, NONE, RUNS, 0, 0, NONE, 0};
        for (int what = 0; what <= 10; what++) {
            CHECK.same("job(first, " + what + ")", x.job(first, what), ofFirst[what]);
        }
        ChainPicker y = new ChainPicker();
        good(y, 0, FULL);
        for (int i = 1; i < MAX_JOBS; i++) {
            good(y, 0, DIFF);
        }
        CHECK.same("all others stand on one", y.job(0, STANDING), 199);
        CHECK.no("it can't be pruned", y.prune(0));
    }

    // Promise 14

    private static void countOfAnotherWhat() {
        ChainPicker x = eightSeries();
        x.begin(0, FULL);
        for (int what : new int[] {-1, 4, LEAST, MOST, -4, 5, 8, 256}) {
            CHECK.same("count(" + what + ")", x.count(what), NONE);
            CHECK.same("count(" + what + ") of a new one", new ChainPicker().count(what), NONE);
        }
        CHECK.same("the first what", x.count(0), 5);
        CHECK.same("the second what", x.count(1), 9);
        CHECK.same("the third what", x.count(2), 1);
        CHECK.same("the last what", x.count(3), 0);
    }

    private static void countAtItsBounds() {
        ChainPicker x = new ChainPicker();
        for (int series = 0; series < 8; series++) {
            CHECK.same("running ahead of series " + series, x.count(RUNNING), series);
            x.begin(series, INCR);
        }
        CHECK.same("all series run", x.count(RUNNING), 8);
        x.end(0, true);
        CHECK.same("all but one", x.count(RUNNING), 7);
        x.end(7, false);
        CHECK.same("all but two", x.count(RUNNING), 6);
        ChainPicker y = allJobs();
        CHECK.same("200 jobs", y.count(ALL), 200);
        CHECK.same("none runs", y.count(RUNNING), 0);
        CHECK.same("none pruned", y.count(ALL_PRUNED), 0);
        y.pass(END_OF_TIME);
        y.expire(0);
        CHECK.same("the end of time", y.count(TIME), END_OF_TIME);
        CHECK.same("all pruned", y.count(ALL_PRUNED), 200);
        CHECK.same("200 jobs still", y.count(ALL), 200);
    }
}
