/**
 * Each call that the document refuses, in a council of three members and four motions (Kit.world): the exception,
 * the last values that are right beside the first that are not, and that all is behind it as it was ahead of it.
 */
public final class RefusalsTest extends Kit {
    private interface Numbered {
        Object of(DrizzleVote x, int n);
    }

    /** The call is refused for n below the least and above the most (and far from both), and not for these two. */
    private static void bounds(Class<?> want, int least, int most, Numbered call) {
        for (int n : new int[] {least - 1, most + 1, MIN, MAX, most + 256}) {
            refused(want, x -> call.of(x, n));
        }
        for (int n : new int[] {least, most}) {
            dueThrow(null, world(), x -> call.of(x, n));
        }
    }

    private static void member(Numbered call) {
        bounds(INDEX, 0, 2, call);
        dueThrow(INDEX, new DrizzleVote(), x -> call.of(x, 0));
        dueThrow(null, council(CROWD), x -> call.of(x, 6));
        refusedIn(() -> council(CROWD), INDEX, x -> call.of(x, 8));
    }

    private static void motion(Numbered call) {
        bounds(INDEX, 0, 3, call);
        dueThrow(INDEX, new DrizzleVote(), x -> call.of(x, 0));
        dueThrow(null, council(CROWD), x -> call.of(x, 7));
        refusedIn(() -> council(CROWD), INDEX, x -> call.of(x, 8));
    }

    private static void reading() {
        sentence("Promise 7: IndexOutOfBoundsException: there is no such MEMBER");
        for (int what = 0; what < 6; what++) {
            int which = what;
            member((x, n) -> x.member(n, which));
        }
        dueThrow(INDEX, council(CROWD), x -> x.member(7, 0));
        sentence("Promise 7: NoSuchElementException: another what");
        bounds(NO_SUCH, 0, 5, (x, n) -> x.member(2, n));
        sentence("Promise 7: of several exceptions the one told first");
        refused(INDEX, x -> x.member(3, 6));
        refused(INDEX, x -> x.member(-1, -1));

        sentence("Promise 8: IndexOutOfBoundsException: there is no such MOTION");
        for (int what = 0; what < 6; what++) {
            int which = what;
            motion((x, n) -> x.motion(n, which));
        }
        sentence("Promise 8: NoSuchElementException: another what");
        bounds(NO_SUCH, 0, 5, (x, n) -> x.motion(3, n));
        sentence("Promise 8: of several exceptions the one told first");
        refused(INDEX, x -> x.motion(4, 6));
        refused(INDEX, x -> x.motion(-1, -1));

        sentence("Promise 9: IndexOutOfBoundsException: there is no such SKY");
        bounds(INDEX, 0, 4, (x, n) -> x.follows(n, 4));
        bounds(INDEX, 0, 4, (x, n) -> x.follows(4, n));
        sentence("Promise 10: IndexOutOfBoundsException: there is no such PLACE");
        bounds(INDEX, 0, 7, (x, n) -> x.exposed(n));
        sentence("Promise 11: IndexOutOfBoundsException: there is no such HOUR");
        bounds(INDEX, 0, 11, (x, n) -> x.paper(n));

        sentence("Promise 12: IndexOutOfBoundsException: there is no such MEMBER, SKY, MOTION");
        member((x, n) -> x.felt(n, 4, NONE));
        bounds(INDEX, 0, 4, (x, n) -> x.felt(2, n, 3));
        sentence("Promise 12: motion NONE: without one; -2 is none");
        bounds(INDEX, -1, 3, (x, n) -> x.felt(2, 4, n));
        refusedIn(() -> council(CROWD), INDEX, x -> x.felt(6, 4, 8));
        dueThrow(null, council(CROWD), x -> x.felt(6, 4, 7));
        dueThrow(null, council("member at 0"), x -> x.felt(0, 4, NONE));
        dueThrow(INDEX, council("member at 0"), x -> x.felt(0, 4, 0));

        sentence("Promise 13: IndexOutOfBoundsException: there is no such MOTION, SKY, HOUR");
        motion((x, n) -> x.goes(n, 4, 11));
        bounds(INDEX, 0, 4, (x, n) -> x.goes(3, n, 11));
        bounds(INDEX, 0, 11, (x, n) -> x.goes(3, 4, n));
    }

    private static void acting() {
        sentence("Promise 14: IllegalArgumentException: they are none (1 to 60)");
        bounds(ARGUMENT, 1, 60, (x, n) -> x.hours(n));

        sentence("Promise 15: IndexOutOfBoundsException: there is no such MOTION, HOUR");
        for (int motion : new int[] {-1, 4, MIN, MAX}) {
            refused(INDEX, x -> x.table(motion, 0));
        }
        bounds(INDEX, 0, 11, (x, n) -> x.table(3, n));
        dueThrow(INDEX, council(CROWD), x -> x.table(8, 0));
        dueThrow(null, council(CROWD), x -> x.table(7, 0));
        dueThrow(null, council(CROWD), x -> x.table(0, 0));
        sentence("Promise 15: IllegalStateException: it does not wait: carried, lost, lapsed");
        for (int motion = 0; motion < 3; motion++) {
            int which = motion;
            refused(STATE, x -> x.table(which, 0));
            refused(STATE, x -> x.table(which, 11));
            refused(STATE, x -> x.table(which, which));
        }
        sentence("Promise 15: of several exceptions the one told first");
        refused(INDEX, x -> x.table(0, 12));
        refused(INDEX, x -> x.table(0, -1));

        sentence("Promise 16: IndexOutOfBoundsException: there is no such HOUR");
        for (int hour : new int[] {-1, 12, MIN, MAX}) {
            refused(INDEX, x -> x.clear(hour));
        }
        sentence("Promise 16: IllegalStateException: nothing did");
        for (int hour : new int[] {3, 4, 5, 6, 8, 9, 10, 11}) {
            refused(STATE, x -> x.clear(hour));
        }
        DrizzleVote cleared = council(CROWD);
        for (int hour : new int[] {0, 11}) {
            refusedIn(() -> council(CROWD), STATE, x -> x.clear(hour));
            cleared.table(0, hour);
            due(cleared.clear(hour), 0);
            dueThrow(STATE, cleared, x -> x.clear(hour));
        }

        sentence("Promise 17: IndexOutOfBoundsException: there is no such MEMBER");
        member((x, n) -> x.hat(n, true));
        member((x, n) -> x.hat(n, false));
        sentence("Promise 18: IndexOutOfBoundsException: there is no such MEMBER");
        member((x, n) -> x.out(n, true));
        member((x, n) -> x.out(n, false));
        sentence("Promise 19: IndexOutOfBoundsException: there is no such MEMBER, PLACE");
        member((x, n) -> x.walk(n, 7));
        bounds(INDEX, 0, 7, (x, n) -> x.walk(2, n));

        sentence("Promise 20: IndexOutOfBoundsException: there is no such MEMBER, MOTION");
        member((x, n) -> x.mind(n, Math.min(3, x.count(1) - 1)));
        for (int motion : new int[] {-1, 4, MIN, MAX}) {
            refused(INDEX, x -> x.mind(0, motion));
        }
        dueThrow(INDEX, council(CROWD), x -> x.mind(0, 8));
        dueThrow(null, council(CROWD), x -> x.mind(0, 7));
        sentence("Promise 20: IllegalStateException: the MOTION does not wait: carried, lost, lapsed");
        for (int motion = 0; motion < 3; motion++) {
            int which = motion;
            refused(STATE, x -> x.mind(0, which));
            refused(STATE, x -> x.mind(2, which));
        }
        sentence("Promise 20: of several exceptions the one told first");
        refused(INDEX, x -> x.mind(3, 0));
        refused(INDEX, x -> x.mind(-1, 0));

        sentence("Promise 21: IndexOutOfBoundsException: there is no such MEMBER");
        member((x, n) -> x.seat(n, 20));
        sentence("Promise 21: IllegalArgumentException: n is none (0 to 20)");
        bounds(ARGUMENT, 0, 20, (x, n) -> x.seat(2, n));
        sentence("Promise 21: of several exceptions the one told first");
        refused(INDEX, x -> x.seat(3, 21));
        refused(INDEX, x -> x.seat(-1, -1));

        sentence("Promise 22: IndexOutOfBoundsException: there is no such MOTION");
        for (int motion : new int[] {-1, 4, MIN, MAX}) {
            refused(INDEX, x -> x.renew(motion));
        }
        sentence("Promise 22: IllegalStateException: it is neither lost nor lapsed, but carried, or waiting");
        refused(STATE, x -> x.renew(0));
        refused(STATE, x -> x.renew(3));
        dueThrow(null, world(), x -> x.renew(1));
        dueThrow(null, world(), x -> x.renew(2));
        DrizzleVote renewed = world();
        renewed.renew(1);
        dueThrow(STATE, renewed, x -> x.renew(1));
    }

    private static void coming() {
        sentence("Promise 23: IndexOutOfBoundsException: there is no such SKY");
        bounds(INDEX, 0, 4, (x, n) -> x.chance(n, 24));
        sentence("Promise 23: IllegalArgumentException: N is none (0 to 24)");
        bounds(ARGUMENT, 0, 24, (x, n) -> x.chance(4, n));
        sentence("Promise 23: of several exceptions the one told first");
        refused(INDEX, x -> x.chance(5, 25));
        refused(INDEX, x -> x.chance(-1, -1));

        sentence("Promise 24: IndexOutOfBoundsException: there is no such MOTION");
        motion((x, n) -> x.carries(n, 24));
        sentence("Promise 24: IllegalArgumentException: N is none (1 to 24)");
        bounds(ARGUMENT, 1, 24, (x, n) -> x.carries(3, n));
        sentence("Promise 24: of several exceptions the one told first");
        refused(INDEX, x -> x.carries(4, 0));
        refused(INDEX, x -> x.carries(-1, 25));

        sentence("Promise 25: IndexOutOfBoundsException: there is no such MOTION");
        motion((x, n) -> x.soonest(n, 10000));
        sentence("Promise 25: IllegalArgumentException: X is none (0 to 10000)");
        bounds(ARGUMENT, 0, 10000, (x, n) -> x.soonest(3, n));
        sentence("Promise 25: of several exceptions the one told first");
        refused(INDEX, x -> x.soonest(4, -1));
        refused(INDEX, x -> x.soonest(-1, 10001));

        sentence("Promise 26: IndexOutOfBoundsException: there is no such MOTION");
        motion((x, n) -> x.when(n));
        sentence("Promise 28: IndexOutOfBoundsException: there is no such HOUR (NONE: how much)");
        bounds(INDEX, -1, 11, (x, n) -> x.best(n));
        sentence("Promise 29: IllegalArgumentException: H is none (0 to 40)");
        bounds(ARGUMENT, 0, 40, (x, n) -> x.shower(n, false));
        bounds(ARGUMENT, 0, 40, (x, n) -> x.shower(n, true));
        sentence("Promise 46: IllegalArgumentException: N is none (0 to 12)");
        bounds(ARGUMENT, 0, 12, (x, n) -> x.dry(n));
        sentence("Promise 47: IllegalArgumentException: N is none (0 to 12)");
        bounds(ARGUMENT, 0, 12, (x, n) -> x.drought(n));
        sentence("Promise 55: IllegalArgumentException: N is none (0 to 60)");
        bounds(ARGUMENT, 0, 60, (x, n) -> x.trial(n, false));
        bounds(ARGUMENT, 0, 60, (x, n) -> x.trial(n, true));
        sentence("Promise 56: IllegalArgumentException: N is none (0 to 60)");
        bounds(ARGUMENT, 0, 60, (x, n) -> x.span(n, false));
        bounds(ARGUMENT, 0, 60, (x, n) -> x.span(n, true));
    }

    private static void councils() {
        sentence("Promise 36: IndexOutOfBoundsException: there is no such MEMBER (NONE: how much)");
        bounds(INDEX, -1, 2, (x, n) -> x.posts(n));
        dueThrow(INDEX, new DrizzleVote(), x -> x.posts(0));
        dueThrow(null, new DrizzleVote(), x -> x.posts(NONE));
        dueThrow(null, council(CROWD), x -> x.posts(6));
        dueThrow(INDEX, council(CROWD), x -> x.posts(7));
        sentence("Promise 38: IndexOutOfBoundsException: it is neither a MEMBER nor 7");
        member((x, n) -> x.swings(n));
        refused(INDEX, x -> x.swings(6));
        refused(INDEX, x -> x.swings(8));
        dueThrow(null, new DrizzleVote(), x -> x.swings(7));
        dueThrow(INDEX, new DrizzleVote(), x -> x.swings(6));
        sentence("Promise 39: IndexOutOfBoundsException: likewise");
        member((x, n) -> x.power(n));
        refused(INDEX, x -> x.power(6));
        refused(INDEX, x -> x.power(8));
        dueThrow(null, new DrizzleVote(), x -> x.power(7));
        dueThrow(INDEX, new DrizzleVote(), x -> x.power(6));

        sentence("Promise 42: IndexOutOfBoundsException: there is no such MOTION");
        motion((x, n) -> x.minds(n));
        sentence("Promise 43: IndexOutOfBoundsException: there is no such MEMBER");
        member((x, n) -> x.bargain(n, 1));
        member((x, n) -> x.bargain(1, n == 6 ? 0 : n));
        dueThrow(null, council(CROWD), x -> x.bargain(5, 6));
        dueThrow(INDEX, council(CROWD), x -> x.bargain(6, 7));
        sentence("Promise 43: IllegalArgumentException: both are one");
        for (int member = 0; member < 3; member++) {
            int which = member;
            refused(ARGUMENT, x -> x.bargain(which, which));
        }
        sentence("Promise 43: of several exceptions the one told first");
        refused(INDEX, x -> x.bargain(3, 3));
        refused(INDEX, x -> x.bargain(-1, -1));

        sentence("Promise 44: IndexOutOfBoundsException: there is no such MEMBER");
        member((x, n) -> x.like(n, 1));
        member((x, n) -> x.like(1, n == 6 ? 0 : n));
        dueThrow(null, council(CROWD), x -> x.like(5, 6));
        dueThrow(INDEX, council(CROWD), x -> x.like(6, 7));
        sentence("Promise 44: IllegalArgumentException: both are one");
        for (int member = 0; member < 3; member++) {
            int which = member;
            refused(ARGUMENT, x -> x.like(which, which));
        }
        sentence("Promise 44: of several exceptions the one told first");
        refused(INDEX, x -> x.like(3, 3));
        refused(INDEX, x -> x.like(-1, -1));

        sentence("Promise 50: IndexOutOfBoundsException: there is no such MOTION");
        motion((x, n) -> x.rests(n));
        sentence("Promise 57: IndexOutOfBoundsException: there is no such MOTION");
        motion((x, n) -> x.led(n, false));
        motion((x, n) -> x.led(n, true));
        sentence("Promise 58: NoSuchElementException: another what");
        bounds(NO_SUCH, 0, 4, (x, n) -> x.log(0, n));
        bounds(NO_SUCH, 0, 4, (x, n) -> x.log(60, n));
    }

    private static void texts() {
        sentence("Promise 4: IllegalArgumentException: the text is wrong: nothing but the TAPE and fault()");
        wrongText("member at 8", 10, x -> x.coast());
        wrongText("member at 7;day 7;paper 9 3;rain", 26, x -> x.coast());
        wrongText("member at 7;day 7;paper 7 3;rain", 28, x -> x.coast());
        sentence("Promise 5: IllegalArgumentException: the text is wrong: nothing but the TAPE and fault()");
        wrongText("feel 1;feel 21", 12, x -> x.law());
        wrongText("lapse if", 8, x -> x.law());
        wrongText("dull 9;lapse ; lapse ;", 22, x -> x.law());
    }

    private static void wrongText(String text, int at, Call call) {
        DrizzleVote x = world();
        x.end(0);
        tape(x, text);
        dueThrow(ARGUMENT, x, call);
        due(x.fault(), at);
        DrizzleVote twin = world();
        twin.end(0);
        // the twin is told a text that is wrong at the same byte, and says nothing
        tape(twin, " ".repeat(at) + "!");
        dueThrow(ARGUMENT, twin, y -> y.law());
        sameAs(x, twin);
    }

    private static void questions() {
        sentence("What is asked changes nothing");
        Call[] all = {x -> x.fault(), x -> x.member(0, 4), x -> x.motion(0, 3), x -> x.follows(0, 0), x -> x.exposed(0),
            x -> x.paper(0), x -> x.felt(0, 2, 0), x -> x.goes(0, 2, 0), x -> x.chance(2, 24), x -> x.carries(3, 24),
            x -> x.soonest(3, 9), x -> x.when(3), x -> x.worst(), x -> x.best(NONE), x -> x.best(5), x -> x.shower(9, true),
            x -> x.haste(0), x -> x.windows(), x -> x.posts(NONE), x -> x.posts(2), x -> x.wins(3), x -> x.swings(7),
            x -> x.power(0), x -> x.minimal(), x -> x.leader(), x -> x.minds(3), x -> x.bargain(0, 1), x -> x.like(0, 1),
            x -> x.foes(), x -> x.dry(12), x -> x.drought(12), x -> x.quorate(), x -> x.enough(), x -> x.rests(3),
            x -> x.tabled(), x -> x.soaked(), x -> x.twins(), x -> x.richest(), x -> x.led(0, true), x -> x.log(0, 0),
            x -> x.count(14), x -> x.end(-1), x -> x.end(6)};
        for (Call one : all) {
            DrizzleVote x = world();
            dueThrow(null, x, one);
            sameAs(x, world());
        }
        sentence("TRIAL: draws, too; nothing stays");
        asks(1, x -> x.trial(60, false));
        asks(15, x -> x.trial(60, true));
        sentence("SPAN: from SEED 1, 2, .. 6; nothing stays");
        asks(10, x -> x.span(60, true));
        asks(10, x -> x.span(60, false));
    }

    public static void main(String[] args) {
        reading();
        acting();
        coming();
        councils();
        texts();
        questions();
        ends("RefusalsTest");
    }
}
