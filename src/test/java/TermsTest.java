/** The document's "What it is" and "Terms", a method for each sentence, at its edges. */
public final class TermsTest extends Jobs {
    private static final Check CHECK = new Check("TermsTest");

    public static void main(String[] args) {
        upTo512Calls();
        seriesAreEight();
        jobsAreNumberedFrom0();
        refusedJobsTakeNoNumber();
        oneOfASeriesRunsAtATime();
        beganAndEnded();
        filesAreFifty();
        versionsAreUpToAMillion();
        baseOfADiff();
        baseOfAnIncr();
        baseOfSeveralAtOneTime();
        baseIsGood();
        baseIsNotPruned();
        baseIsOfTheSeries();
        baseIsFoundAtTheBeginning();
        upgraded();
        upgradedIsAFull();
        fullHasNoBase();
        latestToldHolds();
        since();
        sinceIsOfTheBase();
        chainHeadHasEnded();
        chainHeadIsGoodAndNotPruned();
        chainOfSeveralAtOneTime();
        chainGoesByBases();
        viewIsOfTheNearest();
        viewIsOfTheChainAlone();
        prunedIfNothingStandsOnIt();
        prunedFromTheTop();
        expiredMoreThanNAhead();
        expiredIfNothingStandsOnIt();
        expiredNotTheOnlyGoodFull();
        expiredFromTheLatest();
        expiredCountsEachOnce();
        prunedTellsNoMore();
        prunedNumberStays();
        CHECK.finish();
    }

    /** "An object is used for at most 512 calls": also the last one is answered by the document. */
    private static void upTo512Calls() {
        ChainPicker x = new ChainPicker();
        int calls = 0;
        for (int i = 0; i < MAX_JOBS; i++) {
            CHECK.same("begin of " + i, x.begin(0, INCR), i);
            CHECK.yes("end of " + i, x.end(i, i != 199));
            calls += 2;
        }
        for (int i = 0; i < 111; i++) {
            CHECK.same("call " + calls, x.pass(1), i + 1);
            calls++;
        }
        CHECK.same("calls but one", calls, 511);
        CHECK.same("the 512th call", x.chain(0, 0), 199);
        ChainPicker y = new ChainPicker();
        for (int i = 0; i < 511; i++) {
            CHECK.same("count " + i, y.count(ALL), 0);
        }
        CHECK.same("the 512th call of another", y.begin(7, DIFF), 0);
    }

    private static void seriesAreEight() {
        ChainPicker x = new ChainPicker();
        for (int series = 0; series < 8; series++) {
            CHECK.same("begin(" + series + ", 0)", x.begin(series, FULL), series);
            CHECK.same("its series", x.job(series, OF_SERIES), series);
        }
        for (int series : NO_SERIES) {
            CHECK.same("begin(" + series + ", 0)", x.begin(series, FULL), NONE);
        }
        CHECK.same("all run", x.count(RUNNING), 8);
    }

    private static void jobsAreNumberedFrom0() {
        ChainPicker x = new ChainPicker();
        for (int i = 0; i < MAX_JOBS; i++) {
            CHECK.same("number of job " + i, x.begin(i * 3 % 8, i % 3), i);
            x.end(i, i % 4 != 0);
        }
        CHECK.same("one more", x.begin(5, FULL), NONE);
        CHECK.same("series of the first", x.job(0, OF_SERIES), 0);
        CHECK.same("series of the last", x.job(199, OF_SERIES), 199 * 3 % 8);
    }

    private static void refusedJobsTakeNoNumber() {
        ChainPicker x = new ChainPicker();
        CHECK.same("no such series", x.begin(8, FULL), NONE);
        CHECK.same("the first", x.begin(0, FULL), 0);
        CHECK.same("one runs", x.begin(0, FULL), NONE);
        CHECK.same("no such level", x.begin(1, 3), NONE);
        CHECK.same("the second", x.begin(1, FULL), 1);
    }

    private static void oneOfASeriesRunsAtATime() {
        ChainPicker x = new ChainPicker();
        for (int series = 0; series < 8; series++) {
            x.begin(series, FULL);
        }
        for (int series = 0; series < 8; series++) {
            CHECK.same("a second of " + series, x.begin(series, FULL), NONE);
        }
        x.end(3, true);
        for (int series = 0; series < 8; series++) {
            CHECK.same("a next of " + series, x.begin(series, INCR), series == 3 ? 8 : NONE);
        }
        x.end(8, false);
        CHECK.same("after a bad one", x.begin(3, INCR), 9);
    }

    private static void beganAndEnded() {
        ChainPicker x = new ChainPicker();
        int first = x.begin(0, FULL);
        int second = x.begin(1, FULL);
        x.pass(END_OF_TIME - 1);
        CHECK.same("ended while it runs", x.job(first, ENDED), NONE);
        CHECK.same("state while it runs", x.job(first, STATE), RUNS);
        x.end(first, true);
        x.pass(1);
        x.end(second, false);
        int third = good(x, 2, FULL);
        int[] began = {0, 0, END_OF_TIME};
        int[] ended = {END_OF_TIME - 1, END_OF_TIME, END_OF_TIME};
        int[] states = {GOOD, BAD, GOOD};
        for (int job = first; job <= third; job++) {
            CHECK.same("began " + job, x.job(job, BEGAN), began[job]);
            CHECK.same("ended " + job, x.job(job, ENDED), ended[job]);
            CHECK.same("state of " + job, x.job(job, STATE), states[job]);
        }
    }

    private static void filesAreFifty() {
        ChainPicker x = new ChainPicker();
        int full = x.begin(0, FULL);
        for (int file = 0; file < 50; file++) {
            CHECK.same("told of", x.job(full, TOLD), file);
            CHECK.yes("file " + file, x.tell(full, file, 1000 - file));
        }
        CHECK.no("file 50", x.tell(full, 50, 1));
        CHECK.no("file -1", x.tell(full, -1, 1));
        CHECK.same("told of all", x.job(full, TOLD), 50);
        x.end(full, true);
        for (int file = 0; file < 50; file++) {
            CHECK.same("view of " + file, x.view(0, 0, file), 1000 - file);
            CHECK.same("source of " + file, x.source(0, 0, file), full);
        }
    }

    private static void versionsAreUpToAMillion() {
        ChainPicker x = new ChainPicker();
        int[] versions = {0, 1, 127, 128, 255, 256, 32767, 32768, 65535, 65536, 999999, LAST_VERSION};
        int full = x.begin(0, FULL);
        for (int file = 0; file < versions.length; file++) {
            CHECK.yes("version " + versions[file], x.tell(full, file, versions[file]));
        }
        CHECK.no("version 1000001", x.tell(full, 0, LAST_VERSION + 1));
        CHECK.no("version -2", x.tell(full, 0, -2));
        x.end(full, true);
        for (int file = 0; file < versions.length; file++) {
            CHECK.same("view of version " + versions[file], x.view(0, 0, file), versions[file]);
        }
        CHECK.same("all of them are there", x.files(0, 0), versions.length);
    }

    private static void baseOfADiff() {
        ChainPicker x = new ChainPicker();
        int first = good(x, 0, FULL);
        x.pass(1);
        int second = good(x, 0, FULL);
        x.pass(1);
        int diff = good(x, 0, DIFF);
        CHECK.same("the full that began last", x.job(diff, BASE), second);
        x.pass(1);
        int incr = good(x, 0, INCR);
        int next = good(x, 0, DIFF);
        CHECK.same("past an incr and a diff", x.job(next, BASE), second);
        CHECK.same("none stands on the first", x.job(first, STANDING), 0);
        CHECK.same("two stand on the second", x.job(second, STANDING), 2);
        CHECK.same("none stands on the incr", x.job(incr, STANDING), 0);
        CHECK.same("one stands on the diff", x.job(diff, STANDING), 1);
    }

    private static void baseOfAnIncr() {
        ChainPicker x = new ChainPicker();
        good(x, 0, FULL);
        int before = 0;
        int[] levels = {INCR, DIFF, INCR, INCR, FULL, INCR, FULL, DIFF};
        for (int level : levels) {
            x.pass(1);
            int job = good(x, 0, level);
            int probe = x.begin(0, INCR);
            CHECK.same("an incr on level " + level, x.job(probe, BASE), job);
            CHECK.same("its since", x.job(probe, SINCE), x.job(job, BEGAN));
            x.end(probe, false);
            if (level == INCR) {
                CHECK.same("an incr on what was before", x.job(job, BASE), before);
            }
            before = job;
        }
    }

    private static void baseOfSeveralAtOneTime() {
        for (int time : new int[] {0, 1, END_OF_TIME}) {
            ChainPicker x = new ChainPicker();
            x.pass(time);
            good(x, 0, FULL);
            good(x, 0, FULL);
            int full = good(x, 0, FULL);
            int diff = good(x, 0, DIFF);
            CHECK.same("the latest full", x.job(diff, BASE), full);
            int last = good(x, 0, DIFF);
            CHECK.same("the latest full again", x.job(last, BASE), full);
            int incr = good(x, 0, INCR);
            CHECK.same("the latest job", x.job(incr, BASE), last);
            int late = good(x, 0, INCR);
            CHECK.same("the latest job, an incr", x.job(late, BASE), incr);
        }
    }

    private static void baseIsGood() {
        ChainPicker x = new ChainPicker();
        int full = good(x, 0, FULL);
        int incr = good(x, 0, INCR);
        x.pass(1);
        bad(x, 0, FULL);
        bad(x, 0, DIFF);
        bad(x, 0, INCR);
        int ofIncr = bad(x, 0, INCR);
        int ofDiff = bad(x, 0, DIFF);
        CHECK.same("an incr past bad ones", x.job(ofIncr, BASE), incr);
        CHECK.same("a diff past bad ones", x.job(ofDiff, BASE), full);
    }

    private static void baseIsNotPruned() {
        ChainPicker x = new ChainPicker();
        int full = good(x, 0, FULL);
        int second = good(x, 0, FULL);
        int incr = good(x, 0, INCR);
        x.prune(incr);
        int next = bad(x, 0, INCR);
        CHECK.same("an incr past a pruned one", x.job(next, BASE), second);
        x.prune(next);
        x.prune(second);
        int diff = bad(x, 0, DIFF);
        CHECK.same("a diff past a pruned full", x.job(diff, BASE), full);
        x.pass(1);
        int third = good(x, 0, FULL);
        CHECK.same("the diff and the first full are old", x.expire(0), 2);
        int last = bad(x, 0, DIFF);
        CHECK.same("a diff past what has expired", x.job(last, BASE), third);
    }

    private static void baseIsOfTheSeries() {
        ChainPicker x = new ChainPicker();
        int[] fulls = new int[8];
        for (int series = 0; series < 8; series++) {
            fulls[series] = good(x, series, FULL);
        }
        for (int series = 0; series < 8; series++) {
            CHECK.same("a diff of " + series, x.job(bad(x, series, DIFF), BASE), fulls[series]);
            CHECK.same("an incr of " + series, x.job(bad(x, series, INCR), BASE), fulls[series]);
        }
    }

    /** What comes later does not change what a job stands on. */
    private static void baseIsFoundAtTheBeginning() {
        ChainPicker x = new ChainPicker();
        int alone = x.begin(0, DIFF);
        CHECK.same("upgraded", x.job(alone, UPGRADED), 1);
        x.end(alone, true);
        int diff = x.begin(0, DIFF);
        x.pass(3);
        CHECK.same("base while it runs", x.job(diff, BASE), alone);
        x.end(diff, true);
        good(x, 0, FULL);
        CHECK.same("base when another full is there", x.job(diff, BASE), alone);
        CHECK.same("level when another full is there", x.job(alone, LEVEL), FULL);
        CHECK.same("still upgraded", x.job(alone, UPGRADED), 1);
    }

    private static void upgraded() {
        for (int level = FULL; level <= INCR; level++) {
            int due = level == FULL ? 0 : 1;
            ChainPicker x = new ChainPicker();
            good(x, 1, FULL);
            int first = bad(x, 0, level);
            CHECK.same("none there: upgraded", x.job(first, UPGRADED), due);
            CHECK.same("none there: level", x.job(first, LEVEL), FULL);
            CHECK.same("none there: base", x.job(first, BASE), NONE);
            int second = good(x, 0, level);
            CHECK.same("bad ones alone: upgraded", x.job(second, UPGRADED), due);
            CHECK.same("bad ones alone: level", x.job(second, LEVEL), FULL);
            x.prune(second);
            int third = good(x, 0, level);
            CHECK.same("bad and pruned ones alone: upgraded", x.job(third, UPGRADED), due);
            CHECK.same("bad and pruned ones alone: level", x.job(third, LEVEL), FULL);
            int fourth = good(x, 0, level);
            CHECK.same("one there: upgraded", x.job(fourth, UPGRADED), 0);
            CHECK.same("one there: level", x.job(fourth, LEVEL), level);
        }
    }

    private static void upgradedIsAFull() {
        for (int level = DIFF; level <= INCR; level++) {
            ChainPicker x = new ChainPicker();
            int full = x.begin(0, level);
            CHECK.no("it is told of versions alone", x.tell(full, 0, NONE));
            CHECK.same("its since", x.job(full, SINCE), NONE);
            x.end(full, true);
            int diff = good(x, 0, DIFF);
            CHECK.same("a diff stands on it", x.job(diff, BASE), full);
            x.pass(1);
            CHECK.same("the diff is old", x.expire(0), 1);
            CHECK.same("it is the only good full", x.job(full, PRUNED), 0);
            CHECK.same("its chain", x.chain(0, 1), 1);
        }
    }

    private static void fullHasNoBase() {
        ChainPicker x = new ChainPicker();
        int first = good(x, 0, FULL);
        int second = good(x, 0, FULL);
        int third = x.begin(0, FULL);
        for (int job = first; job <= third; job++) {
            CHECK.same("base of " + job, x.job(job, BASE), NONE);
            CHECK.same("since of " + job, x.job(job, SINCE), NONE);
            CHECK.same("on " + job + " stand", x.job(job, STANDING), 0);
            CHECK.same("upgraded " + job, x.job(job, UPGRADED), 0);
        }
        CHECK.same("its chain", x.chain(0, 0), 1);
        CHECK.yes("the first goes", x.prune(first));
        CHECK.yes("the second goes", x.prune(second));
    }

    private static void latestToldHolds() {
        ChainPicker x = new ChainPicker();
        goodTold(x, 0, FULL, 0, 5);
        int incr = x.begin(0, INCR);
        int[] told = {7, NONE, NONE, 0, 9, NONE, 8, 3, 3};
        for (int version : told) {
            CHECK.yes("told of " + version, x.tell(incr, 0, version));
            CHECK.same("told of one file", x.job(incr, TOLD), 1);
        }
        CHECK.yes("another", x.tell(incr, 1, 4));
        CHECK.yes("another gone", x.tell(incr, 1, NONE));
        CHECK.same("told of two", x.job(incr, TOLD), 2);
        x.end(incr, true);
        CHECK.same("the latest version", x.view(0, 0, 0), 3);
        CHECK.same("gone at last", x.view(0, 0, 1), NONE);
        CHECK.same("gone by it", x.source(0, 0, 1), incr);
    }

    private static void since() {
        ChainPicker x = new ChainPicker();
        int full = x.begin(0, FULL);
        x.pass(4);
        x.end(full, true);
        x.pass(3);
        int incr = x.begin(0, INCR);
        x.pass(2);
        x.end(incr, true);
        x.pass(END_OF_TIME - 9);
        int next = x.begin(0, INCR);
        CHECK.same("since of a full", x.job(full, SINCE), NONE);
        CHECK.same("since when its base began, 0", x.job(incr, SINCE), 0);
        CHECK.same("since when its base began, not ended", x.job(next, SINCE), 7);
        x.end(next, true);
        int last = x.begin(0, INCR);
        CHECK.same("since the end of time", x.job(last, SINCE), END_OF_TIME);
        int diff = x.begin(1, DIFF);
        CHECK.same("since of an upgraded one", x.job(diff, SINCE), NONE);
    }

    /** Neither the job before it, of another series, nor the chain's FULL tells it. */
    private static void sinceIsOfTheBase() {
        ChainPicker x = new ChainPicker();
        x.pass(1);
        good(x, 0, FULL);
        x.pass(1);
        good(x, 0, INCR);
        x.pass(1);
        bad(x, 0, INCR);
        x.pass(1);
        good(x, 1, FULL);
        x.pass(1);
        int diff = bad(x, 0, DIFF);
        int incr = x.begin(0, INCR);
        CHECK.same("since of a diff", x.job(diff, SINCE), 1);
        CHECK.same("since of an incr", x.job(incr, SINCE), 2);
    }

    private static void chainHeadHasEnded() {
        ChainPicker x = new ChainPicker();
        int full = x.begin(0, FULL);
        x.pass(3);
        x.end(full, true);
        int incr = x.begin(0, INCR);
        x.pass(4);
        CHECK.same("while it runs", x.chain(0, 7), 1);
        CHECK.same("while it runs, later", x.chain(0, MOST), 1);
        x.end(incr, true);
        int[] times = {2, 3, 4, 6, 7, 8};
        int[] lengths = {0, 1, 1, 1, 2, 2};
        for (int i = 0; i < times.length; i++) {
            CHECK.same("chain at " + times[i], x.chain(0, times[i]), lengths[i]);
        }
    }

    private static void chainHeadIsGoodAndNotPruned() {
        ChainPicker x = new ChainPicker();
        int full = good(x, 0, FULL);
        x.pass(1);
        int incr = good(x, 0, INCR);
        x.pass(1);
        bad(x, 0, INCR);
        bad(x, 0, FULL);
        CHECK.same("bad ones are passed over", x.link(0, 2, 0), incr);
        int next = good(x, 0, INCR);
        CHECK.same("a good one", x.link(0, 2, 0), next);
        x.prune(next);
        CHECK.same("a pruned one is passed over", x.link(0, 2, 0), incr);
        x.prune(2);
        x.prune(incr);
        CHECK.same("down to the full", x.link(0, 2, 0), full);
        CHECK.same("and no further", x.chain(0, 2), 1);
    }

    private static void chainOfSeveralAtOneTime() {
        ChainPicker x = new ChainPicker();
        for (int i = 0; i < 5; i++) {
            int job = good(x, 0, FULL);
            CHECK.same("the latest of " + i, x.link(0, 0, 0), job);
        }
        int slow = x.begin(0, FULL);
        x.pass(1);
        x.end(slow, true);
        CHECK.same("ahead of the slow one's end", x.link(0, 0, 0), 4);
        CHECK.same("at the slow one's end", x.link(0, 1, 0), slow);
        x.prune(slow);
        CHECK.same("without the slow one", x.link(0, 1, 0), 4);
    }

    private static void chainGoesByBases() {
        ChainPicker x = new ChainPicker();
        good(x, 2, FULL);
        good(x, 2, INCR);
        good(x, 2, DIFF);
        good(x, 3, FULL);
        bad(x, 2, INCR);
        good(x, 2, INCR);
        good(x, 2, INCR);
        int[] due = {6, 5, 2, 0};
        CHECK.same("its length", x.chain(2, 0), due.length);
        for (int i = 0; i < due.length; i++) {
            CHECK.same("link " + i, x.link(2, 0, i), due[i]);
        }
        CHECK.badIndex("link behind it", () -> x.link(2, 0, due.length));
    }

    private static void viewIsOfTheNearest() {
        ChainPicker x = new ChainPicker();
        int full = x.begin(0, FULL);
        for (int file = 0; file < 5; file++) {
            x.tell(full, file, 10);
        }
        x.end(full, true);
        int diff = x.begin(0, DIFF);
        x.tell(diff, 1, 20);
        x.tell(diff, 2, NONE);
        x.tell(diff, 3, 20);
        x.tell(diff, 5, NONE);
        x.end(diff, true);
        int incr = x.begin(0, INCR);
        x.tell(incr, 1, 0);
        x.tell(incr, 2, 30);
        x.tell(incr, 4, NONE);
        x.end(incr, true);
        int[] versions = {10, 0, 30, 20, NONE, NONE, NONE};
        int[] sources = {full, incr, incr, diff, incr, diff, NONE};
        for (int file = 0; file < versions.length; file++) {
            CHECK.same("view of " + file, x.view(0, 0, file), versions[file]);
            CHECK.same("source of " + file, x.source(0, 0, file), sources[file]);
        }
        CHECK.same("files", x.files(0, 0), 4);
    }

    private static void viewIsOfTheChainAlone() {
        ChainPicker x = new ChainPicker();
        goodTold(x, 0, FULL, 0, 1);
        goodTold(x, 0, INCR, 1, 2);
        goodTold(x, 0, DIFF, 2, 3);
        goodTold(x, 1, FULL, 3, 4);
        CHECK.same("the full's", x.view(0, 0, 0), 1);
        CHECK.same("the incr's is not in it", x.view(0, 0, 1), NONE);
        CHECK.same("the diff's", x.view(0, 0, 2), 3);
        CHECK.same("another series' is not in it", x.view(0, 0, 3), NONE);
        CHECK.same("files", x.files(0, 0), 2);
        goodTold(x, 0, FULL, 4, 5);
        CHECK.same("a new full starts anew", x.view(0, 0, 0), NONE);
        CHECK.same("its own", x.view(0, 0, 4), 5);
        CHECK.same("its files", x.files(0, 0), 1);
    }

    private static void prunedIfNothingStandsOnIt() {
        ChainPicker x = new ChainPicker();
        int full = good(x, 0, FULL);
        int diff = good(x, 0, DIFF);
        int good = good(x, 0, INCR);
        int bad = bad(x, 0, DIFF);
        int running = x.begin(0, DIFF);
        CHECK.same("three stand on the full", x.job(full, STANDING), 3);
        CHECK.no("a good, a bad and a running one", x.prune(full));
        CHECK.no("what a good one stands on", x.prune(diff));
        CHECK.yes("the good one on top", x.prune(good));
        CHECK.yes("what it stood on", x.prune(diff));
        CHECK.no("a bad and a running one", x.prune(full));
        CHECK.yes("the bad one", x.prune(bad));
        CHECK.no("a running one", x.prune(full));
        CHECK.same("one stands on the full", x.job(full, STANDING), 1);
        x.end(running, true);
        CHECK.no("it has ended", x.prune(full));
        CHECK.yes("the one that ran", x.prune(running));
        CHECK.yes("the full, though it is the only one", x.prune(full));
    }

    private static void prunedFromTheTop() {
        ChainPicker x = new ChainPicker();
        good(x, 0, FULL);
        for (int i = 1; i < 10; i++) {
            good(x, 0, INCR);
        }
        for (int top = 9; top >= 0; top--) {
            for (int job = 0; job < top; job++) {
                CHECK.no("prune(" + job + ") under " + top, x.prune(job));
            }
            CHECK.yes("prune(" + top + ")", x.prune(top));
            CHECK.same("chain under " + top, x.chain(0, 0), top);
        }
        CHECK.same("pruned", x.count(ALL_PRUNED), 10);
    }

    private static void expiredMoreThanNAhead() {
        ChainPicker x = new ChainPicker();
        for (int i = 0; i < 5; i++) {
            int job = x.begin(0, FULL);
            x.pass(2);
            x.end(job, false);
        }
        // The jobs ended 8, 6, 4, 2 and 0 ahead of now.
        int[] ages = {MOST, 9, 8, 7, 6, 5, 3, 2, 1, 0};
        int[] gone = {0, 0, 0, 1, 0, 1, 1, 0, 1, 0};
        for (int i = 0; i < ages.length; i++) {
            CHECK.same("expire(" + ages[i] + ")", x.expire(ages[i]), gone[i]);
        }
        CHECK.same("the first", x.job(0, PRUNED), 1);
        CHECK.same("what ended now", x.job(4, PRUNED), 0);
    }

    private static void expiredIfNothingStandsOnIt() {
        for (int end = 0; end < 3; end++) {
            ChainPicker x = new ChainPicker();
            int first = good(x, 0, FULL);
            int second = good(x, 0, FULL);
            x.pass(5);
            int young = x.begin(0, INCR);
            if (end != RUNS) {
                x.end(young, end == GOOD);
            }
            CHECK.same("the first full alone", x.expire(0), 1);
            CHECK.same("nothing stands on the first", x.job(first, PRUNED), 1);
            CHECK.same("one in state " + end + " stands on the second", x.job(second, PRUNED), 0);
            // Another full that is younger: the second one is not kept for being the only one.
            x.end(young, true);
            good(x, 0, FULL);
            CHECK.same("the second is held by what stands on it", x.expire(0), 0);
            CHECK.yes("that goes", x.prune(young));
            CHECK.same("nothing holds the second now", x.expire(0), 1);
            CHECK.same("the second", x.job(second, PRUNED), 1);
        }
    }

    private static void expiredNotTheOnlyGoodFull() {
        ChainPicker x = new ChainPicker();
        int only = good(x, 0, FULL);
        int diff = good(x, 0, DIFF);
        int badFull = bad(x, 0, FULL);
        int prunedFull = good(x, 0, FULL);
        x.prune(prunedFull);
        good(x, 1, FULL);
        int running = x.begin(0, FULL);
        x.pass(1);
        CHECK.same("the diff and the bad full", x.expire(0), 2);
        CHECK.same("the diff", x.job(diff, PRUNED), 1);
        CHECK.same("the bad full", x.job(badFull, PRUNED), 1);
        CHECK.same("the only one stays", x.job(only, PRUNED), 0);
        x.end(running, true);
        CHECK.same("another is there", x.expire(0), 1);
        CHECK.same("the first has gone", x.job(only, PRUNED), 1);
        x.pass(1);
        CHECK.same("the other is the only one now", x.expire(0), 0);
        CHECK.yes("prune takes it all the same", x.prune(running));
        ChainPicker y = new ChainPicker();
        int bad = bad(y, 0, FULL);
        y.pass(1);
        CHECK.same("the only full is bad", y.expire(0), 1);
        CHECK.same("it has gone", y.job(bad, PRUNED), 1);
    }

    private static void expiredFromTheLatest() {
        ChainPicker x = new ChainPicker();
        good(x, 0, FULL);
        good(x, 0, INCR);
        good(x, 0, DIFF);
        good(x, 0, INCR);
        bad(x, 0, INCR);
        x.pass(1);
        int fresh = good(x, 0, FULL);
        CHECK.same("a whole old chain at once", x.expire(0), 5);
        CHECK.same("the fresh one is there", x.link(0, 1, 0), fresh);
        ChainPicker y = new ChainPicker();
        int first = good(y, 0, FULL);
        int second = good(y, 0, FULL);
        int third = good(y, 0, FULL);
        y.pass(1);
        CHECK.same("of three old fulls two", y.expire(0), 2);
        CHECK.same("the latest goes", y.job(third, PRUNED), 1);
        CHECK.same("the second goes", y.job(second, PRUNED), 1);
        CHECK.same("the first one is the only one by then", y.job(first, PRUNED), 0);
    }

    private static void expiredCountsEachOnce() {
        ChainPicker x = new ChainPicker();
        bad(x, 0, FULL);
        bad(x, 1, FULL);
        bad(x, 2, FULL);
        x.prune(1);
        x.pass(1);
        CHECK.same("but the pruned one", x.expire(0), 2);
        CHECK.same("pruned", x.count(ALL_PRUNED), 3);
        CHECK.same("nothing is left", x.expire(0), 0);
        CHECK.same("pruned still", x.count(ALL_PRUNED), 3);
        CHECK.no("an expired one can't be pruned", x.prune(0));
    }

    private static void prunedTellsNoMore() {
        ChainPicker x = threeLinks();
        CHECK.same("told of", x.job(2, TOLD), 1);
        x.prune(2);
        CHECK.same("told of nothing", x.job(2, TOLD), 0);
        CHECK.same("the one below holds again", x.view(1, 20, 2), NONE);
        CHECK.same("its source", x.source(1, 20, 2), 1);
        int bad = x.begin(1, INCR);
        x.tell(bad, 0, 1);
        x.end(bad, false);
        x.pass(1);
        CHECK.same("the bad one and its base are old", x.expire(0), 2);
        CHECK.same("an expired one is told of nothing", x.job(bad, TOLD), 0);
        CHECK.same("the full is told of all its files still", x.job(0, TOLD), 3);
        CHECK.same("its files", x.files(1, 21), 3);
    }

    private static void prunedNumberStays() {
        ChainPicker x = new ChainPicker();
        x.pass(2);
        int full = good(x, 5, FULL);
        x.pass(2);
        int diff = x.begin(5, DIFF);
        x.pass(2);
        x.end(diff, false);
        x.prune(diff);
        int[] ofDiff = {5, DIFF, 0, full, 4, 6, BAD, 1, 0, 2, 0};
        for (int what = 0; what <= 10; what++) {
            CHECK.same("of the pruned one " + what, x.job(diff, what), ofDiff[what]);
        }
        CHECK.same("jobs", x.count(ALL), 2);
        CHECK.same("the next number", x.begin(5, DIFF), 2);
        CHECK.same("on the full stands", x.job(full, STANDING), 1);
    }
}
