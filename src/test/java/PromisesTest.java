/** Each promise by hand: ordinary inputs, the edges that the document names, wrong inputs. */
public final class PromisesTest extends Jobs {
    private static final Check CHECK = new Check("PromisesTest");

    public static void main(String[] args) {
        newObject();
        pass();
        begin();
        beginFindsBase();
        beginSkipsBadAndPruned();
        beginStopsAt200();
        tell();
        tellOfGone();
        end();
        chain();
        chainGoesByEndAndBegin();
        link();
        longChain();
        view();
        viewOfWrongInputs();
        files();
        source();
        prune();
        pruneMindsBadAndRunning();
        prunedIsOutOfChains();
        expire();
        expireWholeChain();
        expireKeepsOnlyGoodFull();
        expireKeepsWhatIsStoodOn();
        job();
        jobAfterPrune();
        count();
        refusedChangesNothing();
        CHECK.finish();
    }

    private static void newObject() {
        ChainPicker x = new ChainPicker();
        CHECK.same("NONE", NONE, -1);
        CHECK.same("new: time", x.count(0), 0);
        CHECK.same("new: jobs", x.count(1), 0);
        CHECK.same("new: running", x.count(2), 0);
        CHECK.same("new: pruned", x.count(3), 0);
        CHECK.same("new: job", x.job(0, 0), NONE);
        CHECK.same("new: chain", x.chain(0, 0), 0);
        CHECK.same("new: expire", x.expire(0), 0);
        good(x, 0, FULL);
        x.pass(4);
        ChainPicker other = new ChainPicker();
        CHECK.same("a second object's jobs", other.count(1), 0);
        CHECK.same("a second object's time", other.count(0), 0);
    }

    private static void pass() {
        ChainPicker x = new ChainPicker();
        CHECK.same("pass(0)", x.pass(0), 0);
        CHECK.same("pass(7)", x.pass(7), 7);
        CHECK.same("pass(5)", x.pass(5), 12);
        CHECK.throwing("pass(-1)", () -> x.pass(-1), IllegalArgumentException.class);
        CHECK.throwing("pass(least)", () -> x.pass(Integer.MIN_VALUE), IllegalArgumentException.class);
        CHECK.throwing("pass(most)", () -> x.pass(Integer.MAX_VALUE), IllegalArgumentException.class);
        CHECK.throwing("pass over the end", () -> x.pass(999999989), IllegalArgumentException.class);
        CHECK.same("time after throws", x.count(0), 12);
        CHECK.same("pass to the end", x.pass(999999988), 1000000000);
        CHECK.same("pass(0) at the end", x.pass(0), 1000000000);
        CHECK.throwing("pass(1) at the end", () -> x.pass(1), IllegalArgumentException.class);
        CHECK.same("time at the end", x.count(0), 1000000000);
        CHECK.same("the whole time at once", new ChainPicker().pass(1000000000), 1000000000);
        CHECK.throwing("one more at once", () -> new ChainPicker().pass(1000000001),
                IllegalArgumentException.class);
    }

    private static void begin() {
        ChainPicker x = new ChainPicker();
        CHECK.same("begin(-1, 0)", x.begin(-1, FULL), NONE);
        CHECK.same("begin(8, 0)", x.begin(8, FULL), NONE);
        CHECK.same("begin(0, -1)", x.begin(0, -1), NONE);
        CHECK.same("begin(0, 3)", x.begin(0, 3), NONE);
        CHECK.same("begin(most, most)", x.begin(Integer.MAX_VALUE, Integer.MAX_VALUE), NONE);
        CHECK.same("begin(least, least)", x.begin(Integer.MIN_VALUE, Integer.MIN_VALUE), NONE);
        CHECK.same("jobs after wrong ones", x.count(1), 0);
        CHECK.same("begin(0, 0)", x.begin(0, FULL), 0);
        CHECK.same("begin(7, 0)", x.begin(7, FULL), 1);
        CHECK.same("begin(0, 0) while one runs", x.begin(0, FULL), NONE);
        CHECK.same("begin(7, 2) while one runs", x.begin(7, INCR), NONE);
        CHECK.same("jobs", x.count(1), 2);
        x.end(0, false);
        CHECK.same("begin(0, 0) after a bad end", x.begin(0, FULL), 2);
        x.end(1, true);
        CHECK.same("begin(7, 2) after a good end", x.begin(7, INCR), 3);
    }

    private static void beginFindsBase() {
        ChainPicker x = new ChainPicker();
        int first = good(x, 3, DIFF);
        CHECK.same("diff without full: level", x.job(first, LEVEL), FULL);
        CHECK.same("diff without full: upgraded", x.job(first, UPGRADED), 1);
        CHECK.same("diff without full: base", x.job(first, BASE), NONE);
        int second = good(x, 3, FULL);
        CHECK.same("full: upgraded", x.job(second, UPGRADED), 0);
        CHECK.same("full: base", x.job(second, BASE), NONE);
        int diff = good(x, 3, DIFF);
        CHECK.same("diff: latest full of one time", x.job(diff, BASE), second);
        CHECK.same("diff: level", x.job(diff, LEVEL), DIFF);
        CHECK.same("diff: upgraded", x.job(diff, UPGRADED), 0);
        x.pass(2);
        int incr = good(x, 3, INCR);
        CHECK.same("incr stands on a diff", x.job(incr, BASE), diff);
        CHECK.same("incr: level", x.job(incr, LEVEL), INCR);
        int next = good(x, 3, INCR);
        CHECK.same("incr stands on an incr", x.job(next, BASE), incr);
        int other = good(x, 3, DIFF);
        CHECK.same("diff goes past incrs and diffs", x.job(other, BASE), second);
        int foreign = good(x, 4, INCR);
        CHECK.same("another series is no base", x.job(foreign, BASE), NONE);
        CHECK.same("another series: upgraded", x.job(foreign, UPGRADED), 1);
        int full = good(x, 3, FULL);
        int onFull = good(x, 3, INCR);
        CHECK.same("incr stands on a full", x.job(onFull, BASE), full);
    }

    private static void beginSkipsBadAndPruned() {
        ChainPicker x = new ChainPicker();
        bad(x, 0, FULL);
        int full = good(x, 0, INCR);
        CHECK.same("a bad full is no base", x.job(full, UPGRADED), 1);
        int diff = good(x, 0, DIFF);
        bad(x, 0, INCR);
        int incr = good(x, 0, INCR);
        CHECK.same("a bad incr is no base", x.job(incr, BASE), diff);
        CHECK.yes("prune incr", x.prune(incr));
        bad(x, 0, FULL);
        int again = x.begin(0, INCR);
        CHECK.same("a pruned incr is no base", x.job(again, BASE), diff);
        x.end(again, false);
        int late = good(x, 0, FULL);
        CHECK.yes("prune full", x.prune(late));
        int last = x.begin(0, DIFF);
        CHECK.same("a pruned full is no base", x.job(last, BASE), full);
    }

    private static void beginStopsAt200() {
        ChainPicker x = new ChainPicker();
        for (int i = 0; i < 200; i++) {
            int job = x.begin(i % 8, FULL);
            CHECK.same("begin of job " + i, job, i);
            if (i < 192) {
                x.end(job, false);
            }
        }
        x.end(192, true);
        CHECK.same("the 201st", x.begin(0, FULL), NONE);
        CHECK.yes("prune one of 200", x.prune(0));
        CHECK.same("the 201st after a prune", x.begin(0, FULL), NONE);
        CHECK.same("jobs", x.count(1), 200);
        CHECK.same("running", x.count(2), 7);
        CHECK.yes("the last one may be told", x.tell(199, 0, 1));
        CHECK.no("there is no job 200", x.tell(200, 0, 1));
    }

    private static void tell() {
        ChainPicker x = new ChainPicker();
        CHECK.no("tell before any job", x.tell(0, 0, 0));
        int job = x.begin(0, FULL);
        CHECK.yes("tell first file, first version", x.tell(job, 0, 0));
        CHECK.yes("tell last file, last version", x.tell(job, 49, 1000000));
        CHECK.no("file -1", x.tell(job, -1, 5));
        CHECK.no("file 50", x.tell(job, 50, 5));
        CHECK.no("file most", x.tell(job, Integer.MAX_VALUE, 5));
        CHECK.no("file least", x.tell(job, Integer.MIN_VALUE, 5));
        CHECK.no("version 1000001", x.tell(job, 1, 1000001));
        CHECK.no("version -2", x.tell(job, 1, -2));
        CHECK.no("version least", x.tell(job, 1, Integer.MIN_VALUE));
        CHECK.no("version most", x.tell(job, 1, Integer.MAX_VALUE));
        CHECK.no("job -1", x.tell(-1, 1, 5));
        CHECK.no("job 1", x.tell(1, 1, 5));
        CHECK.no("job most", x.tell(Integer.MAX_VALUE, 1, 5));
        CHECK.same("told of", x.job(job, TOLD), 2);
        CHECK.yes("tell again", x.tell(job, 0, 9));
        CHECK.same("told of after again", x.job(job, TOLD), 2);
        x.end(job, true);
        CHECK.no("tell after the end", x.tell(job, 2, 5));
        CHECK.same("the latest holds", x.view(0, 0, 0), 9);
        CHECK.same("the last file", x.view(0, 0, 49), 1000000);
        CHECK.same("refused file", x.view(0, 0, 1), NONE);
        CHECK.same("file told after the end", x.view(0, 0, 2), NONE);
    }

    private static void tellOfGone() {
        ChainPicker x = new ChainPicker();
        int upgraded = x.begin(0, INCR);
        CHECK.no("an upgraded one of a gone file", x.tell(upgraded, 1, NONE));
        CHECK.yes("a version", x.tell(upgraded, 1, 3));
        CHECK.no("a full of a gone file", x.tell(upgraded, 1, NONE));
        x.end(upgraded, true);
        CHECK.same("the version holds", x.view(0, 0, 1), 3);
        int diff = x.begin(0, DIFF);
        CHECK.yes("a diff of a gone file", x.tell(diff, 1, NONE));
        CHECK.yes("a diff of a file it never had", x.tell(diff, 2, NONE));
        CHECK.same("gone ones count as told", x.job(diff, TOLD), 2);
        CHECK.yes("back again", x.tell(diff, 1, 4));
        x.end(diff, true);
        CHECK.same("back again holds", x.view(0, 0, 1), 4);
        int incr = x.begin(0, INCR);
        CHECK.yes("an incr of a version", x.tell(incr, 1, 5));
        CHECK.yes("an incr of a gone file", x.tell(incr, 1, NONE));
        x.end(incr, true);
        CHECK.same("gone holds", x.view(0, 0, 1), NONE);
        CHECK.same("gone is told once", x.job(incr, TOLD), 1);
    }

    private static void end() {
        ChainPicker x = new ChainPicker();
        CHECK.no("end before any job", x.end(0, true));
        int job = x.begin(5, FULL);
        CHECK.no("end(-1)", x.end(-1, true));
        CHECK.no("end(1)", x.end(1, true));
        CHECK.no("end(least)", x.end(Integer.MIN_VALUE, false));
        CHECK.same("ended while it runs", x.job(job, ENDED), NONE);
        x.pass(6);
        CHECK.yes("end good", x.end(job, true));
        x.pass(1);
        CHECK.no("end twice", x.end(job, false));
        CHECK.same("still good", x.job(job, STATE), 1);
        CHECK.same("ended", x.job(job, ENDED), 6);
        int other = x.begin(5, FULL);
        CHECK.yes("end bad", x.end(other, false));
        CHECK.no("end a bad one", x.end(other, true));
        CHECK.same("still bad", x.job(other, STATE), 2);
    }

    private static void chain() {
        ChainPicker x = new ChainPicker();
        x.pass(10);
        int full = x.begin(2, FULL);
        CHECK.same("a running one is no chain", x.chain(2, 10), 0);
        x.pass(5);
        x.end(full, true);
        CHECK.same("ahead of the end", x.chain(2, 14), 0);
        CHECK.same("at the end", x.chain(2, 15), 1);
        CHECK.same("later than now", x.chain(2, Integer.MAX_VALUE), 1);
        CHECK.same("time below 0", x.chain(2, -1), 0);
        CHECK.same("time least", x.chain(2, Integer.MIN_VALUE), 0);
        CHECK.same("another series", x.chain(3, 15), 0);
        CHECK.same("series -1", x.chain(-1, 15), 0);
        CHECK.same("series 8", x.chain(8, 15), 0);
        x.pass(1);
        bad(x, 2, INCR);
        CHECK.same("a bad one is no head", x.chain(2, 16), 1);
        good(x, 2, INCR);
        good(x, 2, INCR);
        CHECK.same("two incrs", x.chain(2, 16), 3);
        CHECK.same("the earlier time is as it was", x.chain(2, 15), 1);
        good(x, 2, DIFF);
        CHECK.same("a diff stands on the full alone", x.chain(2, 16), 2);
        good(x, 2, INCR);
        CHECK.same("an incr on the diff", x.chain(2, 16), 3);
        good(x, 2, FULL);
        CHECK.same("a new full", x.chain(2, 16), 1);
    }

    private static void chainGoesByEndAndBegin() {
        ChainPicker x = new ChainPicker();
        int first = good(x, 0, FULL);
        int slow = x.begin(0, FULL);
        x.pass(3);
        x.end(slow, true);
        CHECK.same("head ahead of the slow one's end", x.link(0, 2, 0), first);
        CHECK.same("head at the slow one's end", x.link(0, 3, 0), slow);
        int third = good(x, 0, FULL);
        CHECK.same("ended at one time: what began last", x.link(0, 3, 0), third);
    }

    private static void link() {
        ChainPicker x = new ChainPicker();
        CHECK.throwing("link of no chain", () -> x.link(0, 0, 0), IndexOutOfBoundsException.class);
        int full = good(x, 6, FULL);
        int diff = good(x, 6, DIFF);
        good(x, 5, FULL);
        int incr = good(x, 6, INCR);
        CHECK.same("link 0", x.link(6, 0, 0), incr);
        CHECK.same("link 1", x.link(6, 0, 1), diff);
        CHECK.same("link 2", x.link(6, 0, 2), full);
        Class<IndexOutOfBoundsException> out = IndexOutOfBoundsException.class;
        CHECK.throwing("link 3", () -> x.link(6, 0, 3), out);
        CHECK.throwing("link -1", () -> x.link(6, 0, -1), out);
        CHECK.throwing("link most", () -> x.link(6, 0, Integer.MAX_VALUE), out);
        CHECK.throwing("link least", () -> x.link(6, 0, Integer.MIN_VALUE), out);
        CHECK.throwing("link of series 8", () -> x.link(8, 0, 0), out);
        CHECK.throwing("link of series -1", () -> x.link(-1, 0, 0), out);
        CHECK.throwing("link at time -1", () -> x.link(6, -1, 0), out);
    }

    private static void longChain() {
        ChainPicker x = new ChainPicker();
        int full = x.begin(0, FULL);
        x.tell(full, 7, 70);
        x.end(full, true);
        for (int i = 1; i < 200; i++) {
            good(x, 0, INCR);
        }
        CHECK.same("chain of 200", x.chain(0, 0), 200);
        CHECK.same("its first", x.link(0, 0, 0), 199);
        CHECK.same("its full", x.link(0, 0, 199), 0);
        CHECK.throwing("behind its full", () -> x.link(0, 0, 200), IndexOutOfBoundsException.class);
        CHECK.same("view through 200", x.view(0, 0, 7), 70);
        CHECK.same("source through 200", x.source(0, 0, 7), 0);
        CHECK.same("files through 200", x.files(0, 0), 1);
        x.pass(1);
        CHECK.same("the whole chain but its full goes", x.expire(0), 199);
    }

    private static void view() {
        ChainPicker x = threeLinks();
        CHECK.same("view 1 of the full", x.view(1, 9, 1), 11);
        CHECK.same("view 2 of the full", x.view(1, 9, 2), 12);
        CHECK.same("view 1 of the second", x.view(1, 10, 1), 21);
        CHECK.same("view 2 of the second", x.view(1, 19, 2), NONE);
        CHECK.same("view 3 of the second: version 0", x.view(1, 19, 3), 0);
        CHECK.same("view 1 of the third", x.view(1, 20, 1), 21);
        CHECK.same("view 2 of the third", x.view(1, 20, 2), 32);
        CHECK.same("view of a file never there", x.view(1, 20, 4), NONE);
        CHECK.same("view of a file never told", x.view(1, 20, 5), NONE);
        int bad = x.begin(1, INCR);
        x.tell(bad, 1, 99);
        CHECK.same("what a running one was told", x.view(1, 20, 1), 21);
        x.end(bad, false);
        CHECK.same("what a bad one was told", x.view(1, 20, 1), 21);
        int diff = x.begin(1, DIFF);
        x.tell(diff, 3, 43);
        x.end(diff, true);
        CHECK.same("a diff passes over the incrs", x.view(1, 20, 1), 11);
        CHECK.same("a diff's own", x.view(1, 20, 3), 43);
    }

    private static void viewOfWrongInputs() {
        ChainPicker x = threeLinks();
        CHECK.same("file -1", x.view(1, 20, -1), NONE);
        CHECK.same("file 50", x.view(1, 20, 50), NONE);
        CHECK.same("file most", x.view(1, 20, Integer.MAX_VALUE), NONE);
        CHECK.same("file least", x.view(1, 20, Integer.MIN_VALUE), NONE);
        CHECK.same("no chain", x.view(0, 20, 1), NONE);
        CHECK.same("time -1", x.view(1, -1, 1), NONE);
        CHECK.same("series -1", x.view(-1, 20, 1), NONE);
        CHECK.same("series 8", x.view(8, 20, 1), NONE);
    }

    private static void files() {
        ChainPicker x = threeLinks();
        CHECK.same("files of the full", x.files(1, 0), 3);
        CHECK.same("files of the second", x.files(1, 10), 2);
        CHECK.same("files of the third", x.files(1, 20), 3);
        CHECK.same("files ahead of all", x.files(1, -1), 0);
        CHECK.same("files of another series", x.files(2, 20), 0);
        CHECK.same("files of series -1", x.files(-1, 20), 0);
        CHECK.same("files of series 8", x.files(8, 20), 0);
        int full = x.begin(7, FULL);
        for (int file = 0; file < 50; file++) {
            x.tell(full, file, 0);
        }
        x.end(full, true);
        CHECK.same("all files", x.files(7, 20), 50);
        CHECK.same("told of all files", x.job(full, TOLD), 50);
    }

    private static void source() {
        ChainPicker x = threeLinks();
        CHECK.same("source 1 of the full", x.source(1, 0, 1), 0);
        CHECK.same("source 1 of the second", x.source(1, 10, 1), 1);
        CHECK.same("source of a gone file", x.source(1, 10, 2), 1);
        CHECK.same("source of a gone file never there", x.source(1, 20, 4), 1);
        CHECK.same("source of a file back again", x.source(1, 20, 2), 2);
        CHECK.same("source of version 0", x.source(1, 20, 3), 0);
        CHECK.same("source of a file never told", x.source(1, 20, 5), NONE);
        CHECK.same("file -1", x.source(1, 20, -1), NONE);
        CHECK.same("file 50", x.source(1, 20, 50), NONE);
        CHECK.same("file least", x.source(1, 20, Integer.MIN_VALUE), NONE);
        CHECK.same("no chain", x.source(0, 20, 1), NONE);
        CHECK.same("time -1", x.source(1, -1, 1), NONE);
        CHECK.same("series 8", x.source(8, 20, 1), NONE);
        CHECK.same("series -1", x.source(-1, 20, 1), NONE);
    }

    private static void prune() {
        ChainPicker x = new ChainPicker();
        CHECK.no("prune before any job", x.prune(0));
        int full = x.begin(0, FULL);
        CHECK.no("prune a running one", x.prune(full));
        x.end(full, true);
        int diff = good(x, 0, DIFF);
        int incr = good(x, 0, INCR);
        CHECK.no("prune(-1)", x.prune(-1));
        CHECK.no("prune(3)", x.prune(3));
        CHECK.no("prune(most)", x.prune(Integer.MAX_VALUE));
        CHECK.no("a full that is stood on", x.prune(full));
        CHECK.no("a diff that is stood on", x.prune(diff));
        CHECK.yes("the last", x.prune(incr));
        CHECK.no("the last again", x.prune(incr));
        CHECK.yes("the diff then", x.prune(diff));
        CHECK.yes("even the only full", x.prune(full));
        CHECK.same("pruned", x.count(3), 3);
        CHECK.same("chain of nothing", x.chain(0, 0), 0);
        int next = x.begin(0, INCR);
        CHECK.same("numbers stay", next, 3);
        CHECK.same("upgraded again", x.job(next, UPGRADED), 1);
    }

    private static void pruneMindsBadAndRunning() {
        ChainPicker x = new ChainPicker();
        int full = good(x, 0, FULL);
        int incr = x.begin(0, INCR);
        CHECK.no("a running one stands on it", x.prune(full));
        x.end(incr, false);
        CHECK.no("a bad one stands on it", x.prune(full));
        int second = bad(x, 0, DIFF);
        CHECK.yes("a bad one may go", x.prune(incr));
        CHECK.no("one of two still stands on it", x.prune(full));
        CHECK.yes("the other", x.prune(second));
        CHECK.yes("nothing stands on it", x.prune(full));
    }

    private static void prunedIsOutOfChains() {
        ChainPicker x = threeLinks();
        CHECK.yes("prune the third", x.prune(2));
        CHECK.same("chain of the others", x.chain(1, 20), 2);
        CHECK.same("head of the others", x.link(1, 20, 0), 1);
        CHECK.same("view of the others", x.view(1, 20, 2), NONE);
        CHECK.same("source of the others", x.source(1, 20, 2), 1);
        CHECK.same("files of the others", x.files(1, 20), 2);
        CHECK.yes("prune the second", x.prune(1));
        CHECK.same("view of the full", x.view(1, 20, 1), 11);
    }

    private static void expire() {
        ChainPicker x = new ChainPicker();
        Class<IllegalArgumentException> wrong = IllegalArgumentException.class;
        CHECK.throwing("expire(-1)", () -> x.expire(-1), wrong);
        CHECK.throwing("expire(least)", () -> x.expire(Integer.MIN_VALUE), wrong);
        int full = x.begin(0, FULL);
        x.pass(3);
        x.end(full, false);
        int running = x.begin(1, FULL);
        CHECK.same("ended now", x.expire(0), 0);
        x.pass(5);
        CHECK.same("ended just n ahead", x.expire(5), 0);
        CHECK.same("expire(most)", x.expire(Integer.MAX_VALUE), 0);
        CHECK.throwing("expire(-1) with jobs", () -> x.expire(-1), wrong);
        CHECK.same("nothing has gone yet", x.count(3), 0);
        CHECK.same("ended more than n ahead", x.expire(4), 1);
        CHECK.same("the bad full has gone", x.job(full, PRUNED), 1);
        CHECK.same("the running one stays", x.job(running, PRUNED), 0);
        CHECK.same("nothing goes twice", x.expire(0), 0);
        x.pass(999999992);
        x.end(running, false);
        CHECK.same("expire at the end of time", x.expire(0), 0);
    }

    private static void expireWholeChain() {
        ChainPicker x = new ChainPicker();
        int full = good(x, 0, FULL);
        int incr = good(x, 0, INCR);
        int next = good(x, 0, INCR);
        x.pass(10);
        int fresh = good(x, 0, FULL);
        int foreign = good(x, 1, FULL);
        CHECK.same("the whole old chain", x.expire(9), 3);
        CHECK.same("its full", x.job(full, PRUNED), 1);
        CHECK.same("its incr", x.job(incr, PRUNED), 1);
        CHECK.same("its head", x.job(next, PRUNED), 1);
        CHECK.same("the fresh full", x.job(fresh, PRUNED), 0);
        CHECK.same("the other series", x.job(foreign, PRUNED), 0);
        CHECK.same("the chain now", x.link(0, 10, 0), fresh);
    }

    private static void expireKeepsOnlyGoodFull() {
        ChainPicker x = new ChainPicker();
        int first = good(x, 0, FULL);
        int second = good(x, 0, FULL);
        int bad = bad(x, 0, FULL);
        int foreign = good(x, 1, FULL);
        int running = x.begin(0, FULL);
        x.pass(1);
        CHECK.same("the later full and the bad one", x.expire(0), 2);
        CHECK.same("the latest goes first", x.job(second, PRUNED), 1);
        CHECK.same("the only one stays", x.job(first, PRUNED), 0);
        CHECK.same("a bad full goes", x.job(bad, PRUNED), 1);
        CHECK.same("the other series keeps its own", x.job(foreign, PRUNED), 0);
        CHECK.same("a running full does not count", x.expire(0), 0);
        x.end(running, true);
        CHECK.same("a good full does", x.expire(0), 1);
        CHECK.same("the first one goes then", x.job(first, PRUNED), 1);
    }

    private static void expireKeepsWhatIsStoodOn() {
        ChainPicker x = new ChainPicker();
        int full = good(x, 0, FULL);
        int diff = good(x, 0, DIFF);
        int old = good(x, 0, DIFF);
        CHECK.yes("prune the later diff", x.prune(old));
        int spare = good(x, 0, FULL);
        x.pass(5);
        int young = good(x, 0, INCR);
        CHECK.same("a young incr holds its base", x.job(young, BASE), spare);
        CHECK.same("the diff and its full go", x.expire(1), 2);
        CHECK.same("the full", x.job(full, PRUNED), 1);
        CHECK.same("the diff", x.job(diff, PRUNED), 1);
        CHECK.same("the base of the young one", x.job(spare, PRUNED), 0);
        good(x, 0, FULL);
        CHECK.same("it stays beside another full too", x.expire(1), 0);
    }

    private static void job() {
        ChainPicker x = new ChainPicker();
        x.pass(4);
        int full = x.begin(6, INCR);
        x.tell(full, 1, 1);
        x.pass(2);
        x.end(full, true);
        x.pass(1);
        int diff = x.begin(6, DIFF);
        int[] ofFull = {6, 0, 1, NONE, 4, 6, 1, 0, 1, NONE, 1};
        int[] ofDiff = {6, 1, 0, full, 7, NONE, 0, 0, 0, 4, 0};
        for (int what = 0; what < 11; what++) {
            CHECK.same("job(full, " + what + ")", x.job(full, what), ofFull[what]);
            CHECK.same("job(diff, " + what + ")", x.job(diff, what), ofDiff[what]);
        }
        CHECK.same("what -1", x.job(full, -1), NONE);
        CHECK.same("what 11", x.job(full, 11), NONE);
        CHECK.same("what most", x.job(full, Integer.MAX_VALUE), NONE);
        CHECK.same("what least", x.job(full, Integer.MIN_VALUE), NONE);
        CHECK.same("job -1", x.job(-1, 0), NONE);
        CHECK.same("job 2", x.job(2, 0), NONE);
        CHECK.same("job most", x.job(Integer.MAX_VALUE, 0), NONE);
        x.end(diff, false);
        CHECK.same("a bad one", x.job(diff, STATE), 2);
        CHECK.same("a bad one's end", x.job(diff, ENDED), 7);
        good(x, 6, DIFF);
        good(x, 6, INCR);
        CHECK.same("two have it as their base", x.job(full, STANDING), 2);
        CHECK.same("one has the diff", x.job(2, STANDING), 1);
    }

    private static void jobAfterPrune() {
        ChainPicker x = threeLinks();
        CHECK.same("told of before", x.job(1, TOLD), 3);
        CHECK.same("stood on before", x.job(1, STANDING), 1);
        x.prune(2);
        CHECK.same("stood on after", x.job(1, STANDING), 0);
        CHECK.same("the full still is", x.job(0, STANDING), 1);
        x.prune(1);
        CHECK.same("what it was told is gone", x.job(1, TOLD), 0);
        CHECK.same("the full was told still", x.job(0, TOLD), 3);
        CHECK.same("pruned", x.job(1, PRUNED), 1);
        CHECK.same("good still", x.job(1, STATE), 1);
        CHECK.same("its base", x.job(1, BASE), 0);
        CHECK.same("its level", x.job(1, LEVEL), INCR);
        CHECK.same("its begin", x.job(1, BEGAN), 10);
        CHECK.same("its end", x.job(1, ENDED), 10);
        CHECK.same("its since", x.job(1, SINCE), 0);
        x.pass(1);
        int full = good(x, 1, FULL);
        CHECK.same("expired with a new full", x.expire(0), 1);
        CHECK.same("told of after expire", x.job(0, TOLD), 0);
        CHECK.same("the new full stays", x.job(full, PRUNED), 0);
    }

    private static void count() {
        ChainPicker x = new ChainPicker();
        x.pass(9);
        int first = x.begin(0, FULL);
        x.begin(1, FULL);
        CHECK.same("two run", x.count(2), 2);
        x.end(first, true);
        CHECK.same("one runs", x.count(2), 1);
        x.prune(first);
        CHECK.same("time", x.count(0), 9);
        CHECK.same("jobs with the pruned", x.count(1), 2);
        CHECK.same("pruned", x.count(3), 1);
        CHECK.same("count(-1)", x.count(-1), NONE);
        CHECK.same("count(4)", x.count(4), NONE);
        CHECK.same("count(most)", x.count(Integer.MAX_VALUE), NONE);
        CHECK.same("count(least)", x.count(Integer.MIN_VALUE), NONE);
    }

    private static int[] stateOf(ChainPicker x) {
        int jobs = x.count(1);
        int[] state = new int[4 + jobs * 11];
        for (int what = 0; what < 4; what++) {
            state[what] = x.count(what);
        }
        for (int i = 0; i < jobs * 11; i++) {
            state[4 + i] = x.job(i / 11, i % 11);
        }
        return state;
    }

    private static void refusedChangesNothing() {
        ChainPicker x = threeLinks();
        int running = x.begin(1, DIFF);
        x.tell(running, 8, 1);
        int[] before = stateOf(x);
        CHECK.throwing("pass(-5)", () -> x.pass(-5), IllegalArgumentException.class);
        CHECK.throwing("expire(-5)", () -> x.expire(-5), IllegalArgumentException.class);
        CHECK.throwing("link 9", () -> x.link(1, 20, 9), IndexOutOfBoundsException.class);
        CHECK.same("begin while one runs", x.begin(1, INCR), NONE);
        CHECK.no("tell a wrong version", x.tell(running, 8, 1000001));
        CHECK.no("tell of an ended job", x.tell(0, 8, 2));
        CHECK.no("end an ended job", x.end(0, false));
        CHECK.no("prune what is stood on", x.prune(0));
        CHECK.no("prune a running one", x.prune(running));
        int[] after = stateOf(x);
        for (int i = 0; i < before.length; i++) {
            CHECK.same("state " + i + " after refusals", after[i], before[i]);
        }
        x.end(running, true);
        CHECK.same("the version told first", x.view(1, 20, 8), 1);
    }
}
