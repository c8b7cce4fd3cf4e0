import java.util.ArrayList;
import java.util.List;
import java.util.function.Supplier;

/**
 * "What throws or is refused changes nothing": of two objects that came about by the same calls, one
 * gets a call that is refused, and both answer all that comes after it alike.
 */
public final class RefusalTest extends Jobs {
    private static final Check CHECK = new Check("RefusalTest");
    private static final String NO = "false";
    private static final String NONE_SUCH = "-1";
    private static final int[] ENDS = {-1, LEAST, MOST};

    // An object is promised 512 calls: this many questions a pair leaves room for the rest.
    private static final int QUESTIONS_A_PAIR = 60;

    private final String state;
    private final Supplier<ChainPicker> maker;
    private final List<Call> later;
    private final List<Call> questions;

    private RefusalTest(String state, Supplier<ChainPicker> maker, List<Call> later) {
        this.state = state;
        this.maker = maker;
        this.later = later;
        this.questions = questionsFor(maker.get());
    }

    public static void main(String[] args) {
        ofANewObject();
        ofManyKindsOfJobs();
        atTheEndOfTime();
        of200Jobs();
        CHECK.finish();
    }

    /** All that can be asked, but for files that no state has. */
    private static List<Call> questionsFor(ChainPicker x) {
        List<Call> asked = new ArrayList<>();
        int jobs = x.count(ALL);
        int now = x.count(TIME);
        for (int what = 0; what < 4; what++) {
            asked.add(Call.count(what));
        }
        // Two jobs more than there are: what is refused must not have made one.
        for (int job = 0; job < jobs + 2; job++) {
            for (int what = 0; what <= 10; what++) {
                asked.add(Call.job(job, what));
            }
        }
        for (int series = 0; series < 8; series++) {
            for (int time : new int[] {0, 10, now, MOST}) {
                askChain(asked, series, time);
            }
        }
        return asked;
    }

    private static void askChain(List<Call> asked, int series, int time) {
        asked.add(Call.chain(series, time));
        asked.add(Call.files(series, time));
        for (int i = 0; i < 4; i++) {
            asked.add(Call.link(series, time, i));
        }
        for (int file : new int[] {0, 1, 2, 3, 4, 5, 49}) {
            asked.add(Call.view(series, time, file));
            asked.add(Call.source(series, time, file));
        }
    }

    private void refused(String due, Call call) {
        CHECK.same(state + ": " + call, call.answer(maker.get()), due);
        changesNothing(call);
    }

    private void changesNothing(Call call) {
        List<Call> none = new ArrayList<>();
        for (int from = 0; from < questions.size(); from += QUESTIONS_A_PAIR) {
            int to = Math.min(questions.size(), from + QUESTIONS_A_PAIR);
            compare(call, none, questions.subList(from, to));
            compare(call, later, questions.subList(from, to));
        }
    }

    private void compare(Call call, List<Call> between, List<Call> asked) {
        ChainPicker with = maker.get();
        ChainPicker without = maker.get();
        call.answer(with);
        for (Call next : between) {
            CHECK.same(state + ": after " + call + ", " + next, next.answer(with), next.answer(without));
        }
        for (Call question : asked) {
            CHECK.same(state + ": after " + call + " (and " + between.size() + " more), " + question,
                    question.answer(with), question.answer(without));
        }
    }

    private void badTimes(int now) {
        for (int n : new int[] {-1, LEAST, END_OF_TIME - now + 1, MOST}) {
            refused(Call.THROWS_ARGUMENT, Call.pass(n));
        }
        refused(Call.THROWS_ARGUMENT, Call.expire(-1));
        refused(Call.THROWS_ARGUMENT, Call.expire(LEAST));
    }

    private void badBegins() {
        for (int series : NO_SERIES) {
            refused(NONE_SUCH, Call.begin(series, FULL));
            refused(NONE_SUCH, Call.begin(series, INCR));
        }
        for (int level : NO_LEVEL) {
            refused(NONE_SUCH, Call.begin(0, level));
            refused(NONE_SUCH, Call.begin(2, level));
        }
    }

    private void begins(int series) {
        for (int level = FULL; level <= INCR; level++) {
            refused(NONE_SUCH, Call.begin(series, level));
        }
    }

    private void noSuchJobs(int jobs) {
        int[] wrong = {jobs, jobs + 1, ENDS[0], ENDS[1], ENDS[2]};
        for (int job : wrong) {
            refused(NO, Call.tell(job, 1, 5));
            refused(NO, Call.end(job, true));
            refused(NO, Call.end(job, false));
            refused(NO, Call.prune(job));
        }
    }

    private void doesNotRun(int job) {
        for (int version : new int[] {NONE, 0, 5}) {
            refused(NO, Call.tell(job, 0, version));
            refused(NO, Call.tell(job, 1, version));
        }
        refused(NO, Call.end(job, true));
        refused(NO, Call.end(job, false));
    }

    private void wrongTold(int job) {
        for (int file : NO_FILE) {
            refused(NO, Call.tell(job, file, 7));
        }
        for (int version : NO_VERSION) {
            refused(NO, Call.tell(job, 1, version));
            refused(NO, Call.tell(job, 4, version));
        }
    }

    private void badLinks(int series, int time, int length) {
        for (int i : new int[] {length, length + 1, ENDS[0], ENDS[1], ENDS[2]}) {
            refused(Call.THROWS_INDEX, Call.link(series, time, i));
        }
    }

    /** Questions, answered or not, change nothing either. */
    private void asks(int series, int time, int file, int job, int what) {
        changesNothing(Call.chain(series, time));
        changesNothing(Call.link(series, time, 0));
        changesNothing(Call.view(series, time, file));
        changesNothing(Call.files(series, time));
        changesNothing(Call.source(series, time, file));
        changesNothing(Call.job(job, what));
        changesNothing(Call.count(what));
    }

    private void wrongAsks() {
        asks(-1, 20, 1, -1, 0);
        asks(8, -1, -1, 0, -1);
        asks(1, LEAST, 50, LEAST, LEAST);
        asks(1, MOST, LEAST, MOST, MOST);
        asks(LEAST, MOST, MOST, 200, 11);
        asks(1, 20, 1, 0, 0);
    }

    private static void ofANewObject() {
        List<Call> later = new ArrayList<>();
        later.add(Call.begin(0, INCR));
        later.add(Call.tell(0, 1, 6));
        later.add(Call.tell(0, 2, NONE));
        later.add(Call.pass(3));
        later.add(Call.end(0, true));
        later.add(Call.begin(0, INCR));
        later.add(Call.begin(1, DIFF));
        later.add(Call.pass(3));
        later.add(Call.end(1, false));
        later.add(Call.end(2, false));
        later.add(Call.pass(3));
        later.add(Call.expire(2));
        RefusalTest test = new RefusalTest("a new object", ChainPicker::new, later);
        test.badTimes(0);
        test.badBegins();
        test.noSuchJobs(0);
        test.badLinks(0, 0, 0);
        test.wrongAsks();
    }

    /**
     * Series 1: a chain 0, 1, 2, a BAD DIFF 3, a PRUNED INCR 4, an INCR 5 that RUNS. Series 2: a FULL
     * 6 with a BAD INCR 7. Series 3: an UPGRADED 8 that RUNS. Series 4: a FULL 9 with a DIFF 10 that
     * RUNS. Series 5: a PRUNED FULL 11. The time is 20.
     */
    private static ChainPicker manyKinds() {
        ChainPicker x = threeLinks();
        int bad = x.begin(1, DIFF);
        x.tell(bad, 1, 91);
        x.end(bad, false);
        int pruned = goodTold(x, 1, INCR, 2, 92);
        x.prune(pruned);
        int running = x.begin(1, INCR);
        x.tell(running, 1, 50);
        x.tell(running, 2, NONE);
        goodTold(x, 2, FULL, 1, 60);
        bad(x, 2, INCR);
        int upgraded = x.begin(3, INCR);
        x.tell(upgraded, 1, 80);
        goodTold(x, 4, FULL, 0, 90);
        int diff = x.begin(4, DIFF);
        x.tell(diff, 0, NONE);
        int full = good(x, 5, FULL);
        x.prune(full);
        return x;
    }

    /** What the jobs of manyKinds go on with. */
    private static List<Call> manyMore() {
        List<Call> later = new ArrayList<>();
        later.add(Call.tell(5, 3, 77));
        later.add(Call.tell(8, 2, 78));
        later.add(Call.end(5, true));
        later.add(Call.end(8, true));
        later.add(Call.end(10, true));
        later.add(Call.begin(5, DIFF));
        later.add(Call.begin(1, INCR));
        later.add(Call.begin(2, INCR));
        later.add(Call.tell(13, 1, NONE));
        later.add(Call.pass(1));
        later.add(Call.end(13, true));
        later.add(Call.end(14, false));
        later.add(Call.prune(7));
        later.add(Call.prune(6));
        later.add(Call.begin(4, FULL));
        later.add(Call.end(15, true));
        later.add(Call.expire(0));
        return later;
    }

    private static void ofManyKindsOfJobs() {
        RefusalTest test = new RefusalTest("many kinds of jobs", RefusalTest::manyKinds, manyMore());
        test.badTimes(20);
        test.badBegins();
        for (int series : new int[] {1, 3, 4}) {
            test.begins(series);
        }
        test.noSuchJobs(12);
        for (int job : new int[] {0, 1, 2, 3, 4, 6, 7, 9, 11}) {
            test.doesNotRun(job);
        }
        for (int job : new int[] {5, 8, 10}) {
            test.wrongTold(job);
        }
        test.refused(NO, Call.tell(8, 1, NONE));
        test.refused(NO, Call.tell(8, 2, NONE));
        // Bases of a GOOD one (0, 1), of a PRUNED one and one that RUNS (2), of a BAD one (6), of
        // one that RUNS (9); what RUNS (5, 8, 10); what is PRUNED (4, 11).
        for (int job : new int[] {0, 1, 2, 6, 9, 5, 8, 10, 4, 11}) {
            test.refused(NO, Call.prune(job));
        }
        test.badLinks(1, 20, 3);
        test.badLinks(2, 20, 1);
        test.badLinks(3, 20, 0);
        test.badLinks(-1, 20, 0);
        test.badLinks(8, 20, 0);
        test.badLinks(1, -1, 0);
        test.wrongAsks();
        // Taken, but with nothing to do.
        test.refused("20", Call.pass(0));
        test.refused("0", Call.expire(MOST));
        test.refused("0", Call.expire(20));
    }

    private static ChainPicker lastMoment() {
        ChainPicker x = manyKinds();
        x.pass(END_OF_TIME - 20);
        return x;
    }

    private static void atTheEndOfTime() {
        RefusalTest test = new RefusalTest("the end of time", RefusalTest::lastMoment, manyMore());
        test.badTimes(END_OF_TIME);
        test.refused(Call.THROWS_ARGUMENT, Call.pass(END_OF_TIME));
        test.refused(Call.THROWS_ARGUMENT, Call.pass(MOST - END_OF_TIME + 1));
        test.refused("1000000000", Call.pass(0));
        test.refused("0", Call.expire(END_OF_TIME));
        test.refused("0", Call.expire(MOST));
        test.begins(1);
        test.doesNotRun(0);
        test.refused(NO, Call.prune(9));
        test.badLinks(1, END_OF_TIME, 3);
    }

    /** 200 jobs of series 0 to 3; the last four RUN, so that series 4 to 7 are free. */
    private static ChainPicker everyJob() {
        ChainPicker x = new ChainPicker();
        for (int i = 0; i < MAX_JOBS; i++) {
            x.begin(i % 4, i % 3);
            if (i < 196) {
                x.end(i, i % 5 != 0);
            }
        }
        x.tell(196, 1, 6);
        x.prune(195);
        return x;
    }

    private static void of200Jobs() {
        List<Call> later = new ArrayList<>();
        for (int job = 196; job < MAX_JOBS; job++) {
            later.add(Call.tell(job, 2, 5));
            later.add(Call.end(job, job != 198));
        }
        later.add(Call.begin(4, FULL));
        later.add(Call.pass(1));
        later.add(Call.expire(0));
        RefusalTest test = new RefusalTest("200 jobs", RefusalTest::everyJob, later);
        test.begins(0);
        test.begins(4);
        test.begins(7);
        test.noSuchJobs(200);
        test.doesNotRun(195);
        test.refused(NO, Call.prune(195));
        test.refused(NO, Call.prune(199));
        test.refused(Call.THROWS_ARGUMENT, Call.pass(-1));
        test.refused(Call.THROWS_ARGUMENT, Call.expire(-1));
        test.refused(Call.THROWS_INDEX, Call.link(4, 0, 0));
    }
}
