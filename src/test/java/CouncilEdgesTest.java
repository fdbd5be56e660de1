/** Edges that the document names of places, sides and power, minds and bargains, choices, and sets of members and motions. */
public final class CouncilEdgesTest extends Kit {
    private static final String ONE = "member at 0;motion of 0 takes 1 worth 1";

    private static DrizzleVote at(int... places) {
        StringBuilder b = new StringBuilder();
        for (int place : places) {
            b.append(b.length() > 0 ? ";" : "").append("member at ").append(place);
        }
        return council(b.toString());
    }

    private static void windows() {
        sentence("WINDOWS: no PLACE with a MEMBER needs none");
        due(new DrizzleVote().windows(), 0);
        sentence("WINDOWS: one sees PLACES no farther than 1 from where one is");
        due(at(3).windows(), 1);
        due(at(3, 4).windows(), 1);
        due(at(4, 3).windows(), 1);
        due(at(3, 5).windows(), 3);
        due(at(5, 3).windows(), 3);
        due(at(3, 5, 4).windows(), 4);
        sentence("WINDOWS: by numbers: 7 and 0 are far from one another");
        due(at(7, 0).windows(), 3);
        due(at(0, 6, 7).windows(), 3);
        due(at(0, 7, 6).windows(), 3);
        due(at(1, 7, 0).windows(), 3);
        sentence("WINDOWS: the fewest, of several the least as bits");
        due(at(3, 3).windows(), 1);
        due(at(3, 3, 3).windows(), 1);
        due(at(0, 2, 4, 6).windows(), 15);
        due(at(0, 1, 2, 3).windows(), 5);
        due(at(3, 2, 1, 0).windows(), 5);
        due(at(0, 3, 1, 4).windows(), 3);
        due(at(0, 3, 6, 1, 4, 7, 2).windows(), 1 + 2 + 4);
        due(at(0, 1, 2, 3, 4, 5, 6).windows(), 1 + 4 + 32);
        due(at(0, 2, 4, 6, 1, 3, 5).windows(), 4 + 8 + 16);
        sentence("WINDOWS: two see more than one that comes first: the fewest ahead of the least");
        due(at(1, 5, 3, 2, 4).windows(), 2 + 8);
        due(at(1, 3, 2).windows(), 4);
        sentence("WINDOWS: MEMBERS who are in count as well");
        DrizzleVote x = council("member at 0 in;member at 7 in");
        due(x.windows(), 3);
    }

    private static void posts() {
        sentence("POSTS: how much; without MEMBERS nothing");
        due(new DrizzleVote().posts(NONE), 0);
        sentence("POSTS: of several ways the first (MEMBER by MEMBER, the least PLACE first)");
        DrizzleVote x = at(7, 7, 7, 7, 7, 7, 7);
        due(x.posts(NONE), 35);
        for (int member = 0; member < 7; member++) {
            due(x.posts(member), member);
        }
        for (int member = 0; member < 7; member++) {
            x.seat(member, 0);
        }
        due(x.posts(NONE), 0);
        due(x.posts(6), 6);
        sentence("POSTS: each to another one: 7 MEMBERS to 8 PLACES");
        coast(x, "place 0 exposed 1;place 1 exposed 2;place 2 exposed 3;place 3 exposed 4;place 4 exposed 5;place 5 exposed 6;"
            + "place 6 exposed 7;place 7 exposed 8");
        int due = 0;
        for (int member = 0; member < 7; member++) {
            x.seat(member, 20 - member);
            due += (20 - member) * (8 - member);
        }
        due(x.posts(NONE), due);
        for (int member = 0; member < 7; member++) {
            due(x.posts(member), 7 - member);
        }
        coast(x, "place 7 exposed 0;place 0 exposed 9");
        due(x.posts(0), 0);
        due(x.posts(1), 6);
        due(x.posts(6), 1);
        sentence("POSTS: SEATS of who is there; of one without SEATS the least PLACE that is left");
        x = council("member at 0 seats 0;member at 0 seats 2;member at 0 seats 1;place 1 exposed 9;place 6 exposed 8");
        due(x.posts(NONE), 26);
        due(x.posts(0), 0);
        due(x.posts(1), 1);
        due(x.posts(2), 6);
        coast(x, "place 0 exposed 9");
        due(x.posts(0), 2);
        due(x.posts(1), 0);
        due(x.posts(2), 1);
        sentence("POSTS: MEMBERS who are in as well");
        due(council("member at 0 seats 20 in").posts(NONE), 100);
    }

    private static DrizzleVote seats(String more, int... seats) {
        StringBuilder b = new StringBuilder(more);
        for (int n : seats) {
            b.append(b.length() > 0 ? ";" : "").append("member at 0 seats ").append(n);
        }
        return council(b.toString());
    }

    private static void wins() {
        sentence("SIDES: a SIDE WINS, if its SEATS are more than those of all others of these together");
        DrizzleVote x = seats("wet 3", 2, 1);
        due(x.wins(128), false);
        due(x.wins(128 + 2), true);
        due(x.wins(3), false);
        due(seats("wet 2", 2, 1).wins(3), true);
        due(seats("wet 4", 2, 1).wins(128), true);
        due(seats("wet 4", 2, 1).wins(3), false);
        sentence("SIDES: of none WINS, nor where nobody has SEATS");
        due(x.wins(0), false);
        due(seats("wet 0", 0, 0).wins(131), false);
        due(seats("wet 0").wins(128), false);
        due(seats("wet 1").wins(128), true);
        due(seats("wet 1").wins(0), false);
        sentence("Promise 37: MEMBERS who are in do not count");
        x = seats("wet 3", 20, 4);
        due(x.wins(2), false);
        due(x.wins(1), true);
        x.out(0, false);
        due(x.wins(2), true);
        due(x.wins(1), false);
        due(x.wins(1 + 128), false);
        sentence("Sets are bits; of none they count for nothing");
        due(x.wins(4), false);
        due(x.wins(2 + 64 + 256 + MIN), true);
        due(x.wins(-1), true);
        due(x.wins(MIN), false);
        due(x.wins(256), false);
        due(x.wins(~2), false);
    }

    private static void swings() {
        sentence("SWINGS: in how many SIDES that WIN without which they would not");
        DrizzleVote x = seats("wet 1", 1, 1, 1, 1, 1, 1, 1);
        for (int i = 0; i < 8; i++) {
            due(x.swings(i), 35);
        }
        sentence("POWER: in hundredths of those of all, rounded down");
        due(x.power(0), 12);
        due(x.power(6), 12);
        due(x.power(7), 12);
        sentence("MINIMAL: SIDES that WIN of which none would WIN without any one of it");
        due(x.minimal(), 56);
        sentence("LEADER: of several the least");
        due(x.leader(), 0);
        sentence("SWINGS: half of all SEATS is not more");
        x = seats("wet 1", 1);
        due(x.swings(0), 1);
        due(x.swings(7), 1);
        due(x.power(0), 50);
        due(x.minimal(), 1);
        x = seats("wet 2", 2, 1);
        due(x.swings(0), 2);
        due(x.swings(1), 2);
        due(x.swings(7), 2);
        due(x.power(7), 33);
        due(x.minimal(), 3);
        sentence("SWINGS: 0 of one who is in");
        x.out(1, false);
        due(x.swings(1), 0);
        due(x.swings(0), 1);
        due(x.power(1), 0);
        sentence("SWINGS: one who has all has all of them, and one of no SEATS has none");
        x = seats("wet 0", 0, 3, 0);
        due(x.swings(1), 8);
        due(x.swings(0), 0);
        due(x.swings(7), 0);
        due(x.power(1), 100);
        due(x.leader(), 1);
        due(x.minimal(), 1);
        sentence("MINIMAL, LEADER, SWINGS, POWER: of what is OUT by now");
        due(seats("wet 2", 2, 1).minimal(), 3);
        x = seats("wet 2", 2, 1);
        x.out(0, false);
        due(x.minimal(), 1);
        x.out(0, true);
        due(x.leader(), 0);
        x.seat(1, 9);
        due(x.leader(), 1);
        x.seat(1, 1);
        due(x.swings(1), 2);
        x.seat(1, 0);
        due(x.power(1), 0);
        x.seat(1, 20);
        due(x.wins(2), true);
        sentence("LEADER: 7: the drizzle");
        due(seats("wet 4", 2, 1).leader(), 7);
        due(seats("wet 1").leader(), 7);
        due(seats("wet 3", 3).leader(), 0);
        due(seats("wet 2", 1, 1).leader(), 7);
        sentence("POWER: 0 without (SWINGS); LEADER: none without any");
        for (DrizzleVote none : new DrizzleVote[] {seats("wet 0", 0, 0), seats("wet 0"), council("wet 0;member at 0 seats 9 in")}) {
            due(none.power(7), 0);
            due(none.swings(7), 0);
            due(none.leader(), NONE);
            due(none.minimal(), 0);
        }
        due(seats("wet 0", 0).power(0), 0);
        sentence("POWER: one SWING of one is a hundred hundredths");
        due(seats("wet 1").power(7), 100);
        due(seats("wet 1").swings(7), 1);
        sentence("Promise 38: 7 is the drizzle, without 7 MEMBERS too");
        due(seats("wet 20", 1, 1).swings(7), 4);
        due(seats("wet 20", 1, 1, 1, 1, 1, 1, 1).swings(7), 128);
        due(seats("wet 20", 1, 1, 1, 1, 1, 1, 1).swings(6), 0);
    }

    private static void minds() {
        sentence("MINDS: nobody must change, if it GOES 1 in SKY 2 and HOUR already");
        DrizzleVote x = council("member at 0;member at 0;motion of 0 takes 1 worth 1");
        due(x.minds(0), 0);
        sentence("MINDS: the fewest MEMBERS who are OUT and must change their minds; of several sets the least");
        String five = "member at 0;member at 0;member at 0;member at 0;member at 0;wet 0;aye 6;motion of 0 takes 1 worth 1";
        x = council(five);
        due(x.minds(0), 2 + 4);
        x.seat(4, 3);
        due(x.minds(0), 16);
        x.seat(3, 4);
        due(x.minds(0), 2 + 8);
        x.seat(3, 7);
        due(x.minds(0), 8);
        sentence("MINDS: of those who are OUT");
        x.out(3, false);
        due(x.minds(0), 16);
        x.out(4, false);
        due(x.minds(0), 2);
        sentence("MINDS: of as many it is lost, if the MOVER does not feel so, and one more must change");
        x = council("member at 0;member at 0;wet 0;aye 6;motion of 0 takes 1 worth 1");
        due(x.minds(0), 2);
        coast(x, "aye 5");
        due(x.minds(0), 0);
        sentence("MINDS: to FOR: the MOVER's own too");
        x = council("member at 0 seats 9;member at 0;wet 0;motion of 0 takes 1 worth 1 for 01");
        due(x.minds(0), 1);
        sentence("MINDS: in SKY 2: with WET on the other side, if the MOVER does not feel so");
        x = council("member at 0;member at 0;member at 0;wet 2;aye 6;motion of 0 takes 1 worth 1");
        due(x.minds(0), 2 + 4);
        coast(x, "wet 3");
        due(x.minds(0), NONE);
        sentence("MINDS: none, if it cannot be: it LAPSES, or there is no QUORUM");
        x = council(five + ";quorum 5", "lapse if sky>1 and sky<3 and hour<1");
        due(x.minds(0), NONE);
        x.hours(1);
        due(x.minds(0), 2 + 4);
        x.out(4, false);
        due(x.minds(0), NONE);
        sentence("MINDS: none, where nobody is OUT and has no QUORUM; the empty set with QUORUM 0");
        x = council("member at 0 in;motion of 0 takes 1 worth 1;quorum 0;wet 0", "feel 3");
        due(x.minds(0), 0);
        law(x, "feel 2");
        due(x.minds(0), NONE);
        sentence("MINDS: all 7 MEMBERS, if it must be");
        x = council(CROWD + "|wet 7;aye 6");
        due(x.minds(7), NONE);
        coast(x, "wet 6");
        due(x.minds(7), 63);
        coast(x, "wet 4");
        due(x.minds(7), 31);
        x = council(CROWD.replace("worth 8", "worth 8 for 0000000") + "|wet 6;aye 6");
        due(x.minds(7), 127);
        coast(x, "wet 5");
        due(x.minds(7), 127);
        coast(x, "wet 4");
        due(x.minds(7), 63);
        coast(x, "wet 7");
        due(x.minds(7), NONE);
        sentence("MINDS of a MOTION that does not wait as well");
        due(world().minds(1), 0);
    }

    private static void bargains() {
        String two = "member at 0;member at 0;";
        String minor = ";aye 6;wet 1";
        sentence("BARGAIN: the first MEMBER is FOR the first one, the second is not; the second is FOR the second one, the first is not");
        String[][] fors = {{"10", "01"}, {"01", "10"}, {"11", "01"}, {"10", "11"}, {"00", "01"}, {"10", "00"}, {"10", "10"}};
        int[] due = {1, 8, NONE, NONE, NONE, NONE, NONE};
        for (int i = 0; i < due.length; i++) {
            DrizzleVote x = council(two + "motion of 0 takes 1 worth 1 for " + fors[i][0] + ";motion of 1 takes 1 worth 1 for "
                + fors[i][1] + minor);
            due(x.bargain(0, 1), due[i]);
            due(x.bargain(1, 0), i == 0 ? 8 : i == 1 ? 1 : NONE);
        }
        sentence("BARGAIN: none with fewer than two MOTIONS");
        due(council(two + minor.substring(1)).bargain(0, 1), NONE);
        due(council(two + "motion of 0 takes 1 worth 1" + minor).bargain(0, 1), NONE);
        sentence("BARGAIN: that would both GO 1 in SKY 2 and HOUR, if both MEMBERS were FOR both");
        String both = two + "motion of 0 takes 1 worth 1;motion of 1 takes 1 worth 1;aye 6;";
        due(council(both + "wet 1").bargain(0, 1), 1);
        due(council(both + "wet 2").bargain(0, 1), NONE);
        due(council(both + "wet 1;member at 0").bargain(0, 1), NONE);
        due(council(both + "wet 0;member at 0").bargain(0, 1), 1);
        DrizzleVote x = council(both + "wet 1", "lapse if hour>0 and motion>0");
        due(x.bargain(0, 1), 1);
        x.hours(1);
        due(x.bargain(0, 1), NONE);
        law(x, "lapse if hour>0 and motion<1");
        due(x.bargain(0, 1), NONE);
        due(x.bargain(1, 0), NONE);
        law(x, "lapse if motion>1");
        due(x.bargain(0, 1), 1);
        due(x.bargain(1, 0), 8);
        sentence("BARGAIN: and do not both GO 1 now");
        due(council(two + "motion of 0 takes 1 worth 1;motion of 1 takes 1 worth 1").bargain(0, 1), NONE);
        due(council("member at 0;member at 1;place 1 exposed 2;motion of 0 takes 1 worth 1;motion of 1 takes 1 worth 1;wet 1")
            .bargain(0, 1), 1);
        due(council("member at 0;member at 1;place 0 exposed 2;motion of 0 takes 1 worth 1;motion of 1 takes 1 worth 1;wet 1")
            .bargain(0, 1), 1);
        due(council("member at 0;member at 1;place 1 exposed 2;motion of 1 takes 1 worth 1;motion of 0 takes 1 worth 1;wet 1")
            .bargain(0, 1), 8);
        due(council("member at 0;member at 1;place 0 exposed 2;motion of 1 takes 1 worth 1;motion of 0 takes 1 worth 1;wet 1")
            .bargain(0, 1), 8);
        sentence("BARGAIN: two MOTIONS that wait");
        x = council("sky dry 01000;" + both + "wet 1;paper 0 0");
        x.hours(1);
        due(x.motion(0, 4), 2);
        due(x.bargain(0, 1), NONE);
        x.renew(0);
        due(x.bargain(0, 1), 1);
        sentence("BARGAIN: 8 times the first and the second MOTION; of several the least");
        x = council("member at 0;member at 0|aye 6;wet 1;" + times(3, "motion of 1 takes 1 worth 1") + ";"
            + times(3, "motion of 0 takes 1 worth 1") + ";motion of 1 takes 1 worth 1;motion of 0 takes 1 worth 1");
        due(x.bargain(0, 1), 24);
        due(x.bargain(1, 0), 3);
        for (int motion = 0; motion < 3; motion++) {
            x.mind(0, motion);
            x.mind(0, motion + 3);
        }
        due(x.bargain(0, 1), 8 * 7 + 6);
        due(x.bargain(1, 0), 8 * 6 + 7);
    }

    private static void likes() {
        sentence("LIKE of two MEMBERS: about how many MOTIONS they are of one mind");
        DrizzleVote x = council("member at 0;member at 0");
        due(x.like(0, 1), 0);
        x = council(CROWD);
        due(x.like(0, 1), 6);
        due(x.like(5, 6), 5);
        due(x.like(6, 0), 5);
        x = council("member at 0;member at 0;" + times(8, "motion of 0 takes 1 worth 1 for 11"));
        due(x.like(0, 1), 8);
        for (int motion = 0; motion < 8; motion++) {
            x.mind(motion % 2, motion);
            due(x.like(0, 1), 7 - motion);
            due(x.like(1, 0), 7 - motion);
        }
        sentence("LIKE: one that does not wait as well, and against as well as FOR");
        due(world().like(0, 2), 1);
        due(world().like(0, 1), 1);
        due(world().like(1, 2), 2);
        sentence("FOES: none with fewer than two");
        due(new DrizzleVote().foes(), NONE);
        due(at(0).foes(), NONE);
        sentence("FOES: of several the least");
        due(at(0, 0).foes(), 1);
        due(at(0, 0, 0, 0, 0, 0, 0).foes(), 1);
        due(council(CROWD).foes(), 6);
        sentence("FOES: of one mind about the fewest, none being the fewest of all: the lesser one and the other one");
        x = council(at7() + times(2, "motion of 0 takes 1 worth 1 for 1111101"));
        due(x.foes(), 8 * 0 + 5);
        x = council(at7() + "motion of 0 takes 1 worth 1 for 0000010;motion of 0 takes 1 worth 1 for 0000001");
        due(x.foes(), 8 * 5 + 6);
        x = council(at7() + "motion of 0 takes 1 worth 1 for 0000000");
        due(x.foes(), 1);
        due(council(two8()).foes(), 1);
    }

    private static String at7() {
        return times(7, "member at 0") + "|";
    }

    /** Two members who are of one mind about all of eight motions. */
    private static String two8() {
        return "member at 0;member at 0;" + times(8, "motion of 0 takes 1 worth 1 for 11");
    }

    private static void rests() {
        sentence("RESTS: both stay at moving, if it GOES 1, whether or not the opposition goes in");
        due(council(ONE).rests(0), 3);
        due(council("member at 0;motion of 0 takes 1 worth 99").rests(0), 3);
        sentence("RESTS: of no WORTH the MOVER has no more by moving");
        due(council("member at 0;motion of 0 takes 1 worth 0").rests(0), 7);
        sentence("RESTS: it does not GO 1: 0 less 5: the MOVER waits, and the opposition stays");
        due(council(ONE + ";now sun").rests(0), 4);
        due(council("member at 0;motion of 0 takes 1 worth 0;now sun").rests(0), 4);
        due(council(ONE + ";quorum 2").rests(0), 4);
        sentence("RESTS: with the opposition not OUT, if that goes in: it would GO 1 then");
        String two = "member at 0;member at 0 seats 2;motion of 0 takes 1 worth ";
        due(council(two + "1").rests(0), 4);
        due(council(two + "0").rests(0), 4);
        sentence("RESTS: the opposition breaks the QUORUM by going in");
        String quorum = "member at 0 seats 3;member at 0 seats 2;quorum 2;motion of 0 takes 1 worth ";
        due(council(quorum + "1").rests(0), 0);
        due(council(quorum + "0").rests(0), 4);
        sentence("RESTS: all who are OUT and against");
        DrizzleVote x = council("member at 0 seats 3;member at 0 in;quorum 1;motion of 0 takes 1 worth 1");
        due(x.rests(0), 3);
        x.out(1, true);
        coast(x, "quorum 2");
        due(x.rests(0), 0);
        x.mind(1, 0);
        due(x.rests(0), 3);
        x.out(1, false);
        due(x.rests(0), 4);
        sentence("RESTS: a MOVER who is against goes in too, and FEELS less then");
        x = council("member at 0;member at 0;now drizzle;motion of 0 takes 1 worth 1 for 01");
        due(x.goes(0, 2, 0), 1);
        due(x.rests(0), 0);
        sentence("RESTS: in SKY and HOUR");
        x = council(ONE + ";sky dry 00100", "lapse if sky>1 and hour<2");
        due(x.rests(0), 3);
        x.hours(1);
        due(x.rests(0), 4);
        coast(x, "hour 2");
        due(x.rests(0), 3);
        coast(x, "now fog;hour 1");
        due(x.rests(0), 4);
        sentence("Promise 50: NONE, if it does not wait");
        x = world();
        for (int motion = 0; motion < 3; motion++) {
            due(x.rests(motion), NONE);
        }
        due(x.rests(3), 4);
    }

    private static void sets() {
        sentence("TABLED: MOTIONS on the PAPER, as bits, in whatever STATE");
        due(new DrizzleVote().tabled(), 0);
        due(world().tabled(), 15);
        DrizzleVote x = council(CROWD);
        x.table(7, 0);
        due(x.tabled(), 128);
        x.table(0, 11);
        due(x.tabled(), 129);
        sentence("SOAKED: MEMBERS who FEEL AYE at least by SKY now without a MOTION");
        due(new DrizzleVote().soaked(), 0);
        x = council(CROWD + "|now drizzle;aye 5;place 6 exposed 9;place 7 exposed 6;place 0 exposed 4");
        due(x.soaked(), 126);
        coast(x, "aye 6");
        due(x.soaked(), 64);
        coast(x, "aye 7");
        due(x.soaked(), 0);
        coast(x, "aye 4");
        due(x.soaked(), 127);
        x.out(3, false);
        due(x.soaked(), 127 - 8);
        coast(x, "now fog");
        due(x.soaked(), 0);
        law(x, "feel 4 if member>5;feel 4 if member<1 and hour<1;feel 9 if mover;feel 9 if worth>0;feel 9 if motion<8");
        due(x.soaked(), 65);
        x.out(6, false);
        due(x.soaked(), 65);
        coast(x, "hour 1");
        due(x.soaked(), 64);
        sentence("TWINS: pairs of MEMBERS at one PLACE with as many SEATS");
        due(new DrizzleVote().twins(), 0);
        due(at(0).twins(), 0);
        due(at(0, 0).twins(), 1);
        due(at(7, 7, 7, 7, 7, 7, 7).twins(), 21);
        x = at(7, 7, 6);
        x.seat(0, 0);
        due(x.twins(), 0);
        x.seat(1, 0);
        due(x.twins(), 1);
        x.out(0, false);
        x.hat(1, true);
        due(x.twins(), 1);
        x.walk(1, 6);
        due(x.twins(), 0);
        x.seat(1, 1);
        due(x.twins(), 1);
        sentence("RICHEST: the MOTION that waits of the most WORTH, of no WORTH too");
        due(council("member at 0;motion of 0 takes 1 worth 0").richest(), 0);
        due(council(CROWD).richest(), 7);
        sentence("RICHEST: of several the least");
        due(council("member at 0;" + times(8, "motion of 0 takes 1 worth 99")).richest(), 0);
        due(council("member at 0;motion of 0 takes 1 worth 1;motion of 0 takes 1 worth 2;motion of 0 takes 1 worth 2").richest(), 1);
        sentence("RICHEST: that waits; none");
        due(new DrizzleVote().richest(), NONE);
        x = council("member at 0;motion of 0 takes 1 worth 1;motion of 0 takes 1 worth 2;paper 0 1;paper 1 0");
        x.hours(1);
        due(x.richest(), 0);
        x.hours(1);
        due(x.richest(), NONE);
    }

    public static void main(String[] args) {
        windows();
        posts();
        wins();
        swings();
        minds();
        bargains();
        likes();
        rests();
        sets();
        ends("CouncilEdgesTest");
    }
}
