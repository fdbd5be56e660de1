/** Edges that the document names of hours that come: chances, the best hours and papers, cuffs, dry weeks, trials. */
public final class ChanceEdgesTest extends Kit {
    private static final String ONE = "member at 0;motion of 0 takes 1 worth 1";

    private static void chances() {
        sentence("CHANCE of a SKY behind N HOURS (0 to 24): of 10000, where the SKY is now at first");
        String[] skies = {"sun", "dry", "drizzle", "fog", "downpour"};
        for (int now = 0; now < 5; now++) {
            DrizzleVote x = council("now " + skies[now]);
            for (int sky = 0; sky < 5; sky++) {
                due(x.chance(sky, 0), sky == now ? 10000 : 0);
                due(x.chance(sky, 1), 2000);
                due(x.chance(sky, 24), 2000);
            }
        }
        DrizzleVote x = council(ROUND);
        for (int n = 0; n <= 24; n++) {
            for (int k = 0; k < 4; k++) {
                // dry, drizzle, fog and sun, one behind another
                due(x.chance(new int[] {1, 2, 3, 0}[k], n), n % 4 == k ? 10000 : 0);
            }
            due(x.chance(4, n), 0);
        }
        sentence("CHANCE: as much as it has times that WEIGHT by the sum of its WEIGHTS, rounded down");
        x = council("sky dry 12300");
        due(x.chance(0, 1), 1666);
        due(x.chance(1, 1), 3333);
        sentence("CHANCE: what it has over stays with the SKY of the greatest WEIGHT of these");
        due(x.chance(2, 1), 5001);
        x = council("sky dry 00321");
        due(x.chance(2, 1), 5001);
        due(x.chance(3, 1), 3333);
        due(x.chance(4, 1), 1666);
        sentence("CHANCE: the first SKY of the greatest WEIGHT");
        x = council("sky dry 01110");
        due(x.chance(1, 1), 3334);
        due(x.chance(2, 1), 3333);
        due(x.chance(3, 1), 3333);
        x = council("sky dry 02077");
        due(x.chance(1, 1), 1250);
        due(x.chance(3, 1), 4375);
        due(x.chance(4, 1), 4375);
        x = council("sky dry 10022");
        due(x.chance(3, 1), 4000);
        x = council("sky dry 10033");
        due(x.chance(0, 1), 1428);
        due(x.chance(3, 1), 4287);
        due(x.chance(4, 1), 4285);
        sentence("CHANCE: also of 1 nothing is lost");
        x = council("sky dry 91000;sky sun 10000");
        int[] left = {10000, 1000, 100, 10, 1, 0, 0};
        for (int n = 0; n < left.length; n++) {
            due(x.chance(1, n), left[n]);
            due(x.chance(0, n), 10000 - left[n]);
        }
        sentence("CHANCE: each SKY gives by itself what it has over");
        x = council("sky dry 11100;sky sun 00111;sky drizzle 00011");
        // dry gives 3334, 3333, 3333; then sun 1111 twice and 1112, dry as much, drizzle 1666 and 1667
        due(x.chance(0, 2), 1111);
        due(x.chance(1, 2), 1111);
        due(x.chance(2, 2), 1112 + 1111);
        due(x.chance(3, 2), 1111 + 1667);
        due(x.chance(4, 2), 1111 + 1666);
    }

    private static void carries() {
        sentence("CARRIES of a MOTION and N (1 to 24): CHANCES of all SKIES behind N HOURS by which it GOES 1, together");
        DrizzleVote x = council(ONE, "lapse if sky<1 or sky>3");
        due(x.carries(0, 1), 6000);
        due(x.carries(0, 24), 6000);
        law(x, "lapse");
        due(x.carries(0, 1), 0);
        law(x, "lapse if 1>2");
        due(x.carries(0, 24), 10000);
        sentence("CARRIES: also a SKY of the least CHANCE counts");
        x = council("sky dry 99999;sky sun 10000;sky drizzle 00100;sky fog 00010;sky downpour 00001;" + ONE, "lapse if sky<1 or sky>1");
        int due = 10000;
        for (int n = 1; n <= 24; n++) {
            // the fifth part each time, and what is over stays with sun, the first of the greatest WEIGHT
            due = due / 5;
            due(x.carries(0, n), due);
        }
        x = council("sky dry 19000;sky sun 10000;sky drizzle 00100;sky fog 00010;sky downpour 00001;" + ONE, "lapse if sky>0");
        due(x.carries(0, 1), 1000);
        x = council("sky dry 91000;sky sun 10000;" + ONE, "lapse if sky<1");
        due(x.carries(0, 4), 1);
        due(x.carries(0, 5), 0);
        due(x.soonest(0, 1), 1);
        x = council("sky dry 00119;sky downpour 00009;" + ONE, "lapse if sky<2 or sky>2");
        due(x.carries(0, 1), 909);
        sentence("CARRIES: a SKY without a CHANCE does not count");
        x = council("sky dry 00010;" + ONE, "lapse if sky>2 and sky<4");
        due(x.carries(0, 1), 0);
        sentence("CARRIES: the HOUR: HOUR and N less 1, by 12: what is left");
        for (int hour : new int[] {0, 5, 11}) {
            x = council(ONE + ";hour " + hour, "lapse if hour<3 or hour>3");
            for (int n = 1; n <= 24; n++) {
                due(x.carries(0, n), (hour + n - 1) % 12 == 3 ? 10000 : 0);
            }
        }
        sentence("CARRIES: of a MOTION that does not wait too");
        x = world();
        due(x.motion(0, 4), 1);
        due(x.carries(0, 1), 0);
        due(x.carries(0, 2), 10000);
        sentence("CARRIES: PAPER, HATS, all else as now");
        x = council("member at 0;member at 0;motion of 0 takes 1 worth 1", "feel 3 if hat;lapse if sky<0");
        due(x.carries(0, 1), 2000);
        x.hat(0, true);
        due(x.carries(0, 1), 10000);
        x.seat(1, 4);
        due(x.carries(0, 1), 10000);
        x.seat(1, 5);
        due(x.carries(0, 1), 0);
    }

    private static void soonest() {
        sentence("SOONEST of a MOTION and X (0 to 10000): the first N by which CARRIES is X at least");
        DrizzleVote x = council(ONE + ";hour 2", "lapse if hour<3 and sky<2 or hour>3 and sky<1");
        due(x.soonest(0, 0), 1);
        due(x.soonest(0, 6000), 1);
        due(x.soonest(0, 6001), 2);
        due(x.soonest(0, 10000), 2);
        law(x, "lapse if hour<1 and sky<4 or hour>0");
        due(x.soonest(0, 0), 1);
        due(x.soonest(0, 1), 11);
        due(x.soonest(0, 2000), 11);
        sentence("SOONEST: none");
        due(x.soonest(0, 2001), NONE);
        due(x.soonest(0, 10000), NONE);
        law(x, "lapse");
        due(x.soonest(0, 0), 1);
        due(x.soonest(0, 1), NONE);
        sentence("SOONEST: N is 24 at most");
        x = late();
        law(x, "lapse if hour<7 or hour>7 or sky<4");
        due(x.soonest(0, 1), 24);
        law(x, "lapse if hour<8 or hour>8 or sky<4");
        due(x.soonest(0, 1), NONE);
        due(x.soonest(0, 0), 1);
    }

    /** In hour 8, with five skies that go round: in hour 7 it is drizzle behind 12 hours, downpour behind 24. */
    private static DrizzleVote late() {
        return council(ONE + ";hour 8;now sun;sky sun 01000;sky dry 00100;sky drizzle 00010;sky fog 00001;sky downpour 10000");
    }

    private static void when() {
        sentence("WHEN: the N (1 to 24) by which CARRIES is the most");
        DrizzleVote x = late();
        law(x, "lapse if hour<7 or hour>7 or sky<4");
        due(x.when(0), 24);
        law(x, "lapse if hour<7 or hour>7 or sky<2");
        due(x.when(0), 12);
        x = council(ONE, "lapse if sky<1 and hour<11 or sky<2 and hour<10");
        due(x.when(0), 12);
        sentence("WHEN: of several the least");
        law(x, "lapse if sky<1");
        due(x.when(0), 1);
        law(x, "lapse if sky<1 and hour>3 or sky<2 and hour<3");
        due(x.when(0), 4);
        law(x, "lapse");
        due(x.when(0), 1);
    }

    private static void worst() {
        String two = ONE + ";motion of 0 takes 1 worth 2";
        sentence("WORST: the SKY by which of all MOTIONS that wait the fewest are carried in HOUR");
        DrizzleVote x = council(two);
        for (int sky = 0; sky < 5; sky++) {
            law(x, "lapse if sky>" + sky + " and motion>0;lapse if sky<" + sky + " and motion>0;lapse if sky+1>" + sky
                + " and sky<" + (sky + 1) + (sky == 0 ? "" : " and sky>" + (sky - 1)));
            due(x.worst(), sky);
        }
        law(x, "lapse if sky>3 and hour<1");
        due(x.worst(), 4);
        x.hours(1);
        due(x.worst(), 0);
        sentence("WORST: of several the least");
        law(x, "lapse if sky>1 and sky<4");
        due(x.worst(), 2);
        law(x, "lapse");
        due(x.worst(), 0);
        sentence("WORST: of all MOTIONS that wait: without any the least SKY");
        due(new DrizzleVote().worst(), 0);
        law(x, "lapse if sky>2 and motion<1;lapse if sky>3");
        due(x.worst(), 4);
        coast(x, "paper 0 1;paper 1 0;hour 0;sky sun 01000;sky dry 01000;sky fog 01000;sky downpour 01000;sky drizzle 01000");
        x.hours(1);
        due(x.count(10), 1);
        due(x.worst(), 3);
        x.hours(1);
        due(x.count(10), 0);
        due(x.worst(), 0);
        sentence("WORST: SKIES are 0 to 4");
        due(council(two, "lapse if sky>4").worst(), 0);
        sentence("WORST: of all 8 MOTIONS");
        x = council("member at 0|" + times(8, "motion of 0 takes 1 worth 1"), "lapse if sky<0");
        due(x.worst(), 0);
        law(x, "lapse if sky>2 and sky<4 and motion>6");
        due(x.worst(), 3);
        x = council(CROWD, "lapse if sky>0 and sky<2 and motion>6");
        x.seat(6, 20);
        due(x.worst(), 1);
    }

    private static void best() {
        sentence("DAY'S best: how much (by 10000, rounded down)");
        DrizzleVote x = council("member at 0;motion of 0 takes 1 worth 3;hour 11");
        due(x.best(NONE), 2);
        x = council("member at 0;motion of 0 takes 1 worth 3;motion of 0 takes 1 worth 3;hour 10");
        due(x.best(NONE), 4);
        x = council("member at 0;motion of 0 takes 1 worth 99");
        due(x.best(NONE), 79);
        sentence("DAY'S best: 9999 by 10000, rounded down");
        x = council("member at 0;motion of 0 takes 1 worth 3;hour 11;sky dry 01110", "lapse if sky<3");
        due(x.carries(0, 1), 3333);
        due(x.best(NONE), 0);
        law(x, "lapse if sky>1");
        due(x.carries(0, 1), 3334);
        due(x.best(NONE), 1);
        sentence("DAY'S best: nothing, if no MOTION waits");
        due(new DrizzleVote().best(NONE), 0);
        for (int hour = 0; hour < 12; hour++) {
            due(new DrizzleVote().best(hour), NONE);
        }
        sentence("DAY'S best: MOTIONS put to HOURS from HOUR on till 11, each to another one, at most one in an HOUR");
        x = council(CROWD + "|hour 4", "lapse if sky<0");
        for (int member = 0; member < 7; member++) {
            x.seat(member, member == 0 ? 20 : 0);
        }
        for (int motion = 1; motion < 8; motion++) {
            x.mind(0, motion);
        }
        due(x.best(NONE), 36);
        for (int hour = 0; hour < 12; hour++) {
            due(x.best(hour), hour < 4 ? NONE : hour - 4);
        }
        sentence("DAY'S best: fewer HOURS than MOTIONS: till 11 alone");
        coast(x, "hour 10");
        due(x.best(NONE), 15);
        due(x.best(9), NONE);
        due(x.best(10), 6);
        due(x.best(11), 7);
        coast(x, "hour 11");
        due(x.best(NONE), 8);
        due(x.best(11), 7);
        due(x.best(10), NONE);
        due(x.best(0), NONE);
        sentence("DAY'S best: more HOURS than MOTIONS: none being the least");
        coast(x, "hour 0");
        for (int hour = 0; hour < 12; hour++) {
            due(x.best(hour), hour < 4 ? NONE : hour - 4);
        }
        sentence("DAY'S best: none is ahead of a MOTION that brings nothing");
        law(x, "lapse");
        due(x.best(NONE), 0);
        for (int hour = 0; hour < 12; hour++) {
            due(x.best(hour), NONE);
        }
        x = council("member at 0;motion of 0 takes 1 worth 0;motion of 0 takes 1 worth 1;hour 10");
        due(x.best(10), NONE);
        due(x.best(11), 1);
        sentence("DAY'S best: the first such way: then the MOTIONS");
        x = council("member at 0;motion of 0 takes 1 worth 5;motion of 0 takes 1 worth 5;hour 10");
        due(x.best(10), 0);
        due(x.best(11), 1);
        law(x, "lapse if hour>10");
        due(x.best(10), 0);
        due(x.best(11), NONE);
        sentence("DAY'S best: the k-th HOUR from HOUR on by CARRIES of k, k from 1 on");
        x = council(ROUND + ";member at 0;motion of 0 takes 1 worth 5;motion of 0 takes 1 worth 9;hour 9",
            "lapse if sky<3 and motion<1;lapse if sky>2;lapse if sky<2");
        // drizzle in hour 9, fog in hour 10, sun in hour 11
        due(x.best(9), 1);
        due(x.best(10), NONE);
        due(x.best(NONE), 9);
        law(x, "lapse if hour<11 and motion>0;lapse if hour>10 and motion<1");
        due(x.best(9), NONE);
        due(x.best(10), 0);
        due(x.best(11), 1);
        due(x.best(NONE), 14);
        sentence("DAY'S best: so that CARRIES times WORTH of all together is the most");
        law(x, "lapse if motion<1 and hour<10;lapse if motion<1 and hour>10;lapse if motion>0 and hour>10;lapse if motion>0 and hour<10");
        due(x.best(NONE), 9);
        due(x.best(10), 1);
        law(x, "lapse if motion<1 and hour<10;lapse if motion<1 and hour>10;lapse if motion>0 and hour>10");
        due(x.best(NONE), 14);
        due(x.best(9), 1);
        due(x.best(10), 0);
        due(x.best(11), NONE);
        sentence("DAY'S best: MOTIONS that wait");
        x.table(1, 9);
        x.hours(1);
        due(x.motion(1, 4), 1);
        due(x.best(NONE), 5);
        due(x.best(10), 0);
        due(x.best(9), NONE);
        bestOfManyHours();
    }

    private static void bestOfManyHours() {
        sentence("DAY'S best: each of 8 MOTIONS may have an HOUR of its own");
        DrizzleVote x = council(CROWD, "lapse if not (motion+hour>10 and motion+hour<12)");
        for (int member = 0; member < 7; member++) {
            x.seat(member, 0);
        }
        x.seat(0, 9);
        for (int motion = 1; motion < 8; motion++) {
            x.mind(0, motion);
        }
        for (int hour = 0; hour < 12; hour++) {
            due(x.best(hour), hour < 4 ? NONE : 11 - hour);
        }
        due(x.best(NONE), 36);
    }

    private static void showers() {
        sentence("SHOWER of H HOURS (0 to 40): sets that TAKE H together at most");
        DrizzleVote x = council(CROWD.replace("worth 8", "worth 9"), "lapse if sky<0");
        for (int motion = 0; motion < 8; motion++) {
            for (int member = 0; member < 7; member++) {
                if ((x.motion(motion, 3) >> member & 1) == 0 && motion != 4) {
                    x.mind(member, motion);
                }
            }
        }
        // motion 4 would not go: the others take 1, 2, 3, 4, 6, 7, 8 and are worth as much, the last one 9
        due(x.shower(0, false), 0);
        due(x.shower(0, true), 0);
        due(x.shower(1, false), 1);
        due(x.shower(1, true), 1);
        due(x.shower(30, true), 31);
        due(x.shower(31, true), 32);
        due(x.shower(31, false), 255 - 16);
        due(x.shower(40, true), 32);
        due(x.shower(8, false), 128);
        due(x.shower(8, true), 9);
        sentence("SHOWER: of several the least as bits");
        due(x.shower(7, false), 1 + 2 + 8);
        due(x.shower(5, false), 2 + 4);
        sentence("SHOWER: the empty set, if none is worth more");
        due(new DrizzleVote().shower(40, false), 0);
        due(council("member at 0;motion of 0 takes 1 worth 0").shower(40, false), 0);
        due(council("member at 0;motion of 0 takes 1 worth 1").shower(40, false), 1);
        sentence("SHOWER: MOTIONS that wait, that GO 1 in SKY 2 and HOUR");
        x = council("member at 0;motion of 0 takes 9 worth 1;motion of 0 takes 9 worth 1;motion of 0 takes 9 worth 1;sky dry 01000",
            "lapse if motion>1 and hour<1;lapse if sky>2 and motion>0;lapse if motion<2 and hour>1");
        due(x.shower(40, false), 3);
        x.table(1, 0);
        x.hours(1);
        due(x.count(11), 2);
        due(x.shower(40, false), 5);
        x.hours(1);
        due(x.shower(40, false), 4);
        sentence("SHOWER: as much as H and one more");
        x = council("member at 0;motion of 0 takes 9 worth 1");
        due(x.shower(8, false), 0);
        due(x.shower(9, false), 1);
        x = council("member at 0;" + times(5, "motion of 0 takes 8 worth 7"));
        due(x.shower(39, true), 28);
        due(x.shower(39, false), 15);
        due(x.shower(40, true), 35);
    }

    private static void hastes() {
        sentence("HASTE: the order of all that wait, the greater first: the k-th one (0 the first)");
        DrizzleVote x = council("member at 0;motion of 0 takes 2 worth 3;motion of 0 takes 1 worth 2;motion of 0 takes 9 worth 99");
        due(x.haste(0), 2);
        due(x.haste(1), 1);
        due(x.haste(2), 0);
        sentence("HASTE: none");
        for (int k : new int[] {3, 8, -1, MIN, MAX}) {
            due(x.haste(k), NONE);
        }
        due(new DrizzleVote().haste(0), NONE);
        sentence("HASTE: of like ones by numbers");
        x = council("member at 0;motion of 0 takes 2 worth 4;motion of 0 takes 1 worth 2;motion of 0 takes 3 worth 6;"
            + "motion of 0 takes 1 worth 0;motion of 0 takes 9 worth 0");
        for (int k = 0; k < 5; k++) {
            due(x.haste(k), k);
        }
        sentence("HASTE: compared exactly");
        x = council("member at 0;motion of 0 takes 8 worth 87;motion of 0 takes 9 worth 98;motion of 0 takes 7 worth 76");
        // 10.875, 10.888.., 10.857..
        due(x.haste(0), 1);
        due(x.haste(1), 0);
        due(x.haste(2), 2);
        sentence("HASTE: of all that wait");
        x.table(0, 0);
        x.hours(1);
        due(x.haste(1), 2);
        due(x.haste(2), NONE);
        x = council(CROWD);
        for (int k = 0; k < 8; k++) {
            due(x.haste(k), k);
        }
        due(x.haste(8), NONE);
    }

    private static void dry() {
        sentence("DRY of N HOURS (0 to 12): behind each HOUR what SKY 2 has is taken away: what all others have together then");
        DrizzleVote x = new DrizzleVote();
        for (int n = 0; n <= 12; n++) {
            due(x.dry(n), dryAfter(n));
        }
        x = council("sky dry 00100");
        due(x.dry(0), 10000);
        due(x.dry(1), 0);
        due(x.dry(12), 0);
        x = council("sky dry 01000");
        due(x.dry(12), 10000);
        sentence("DRY of 0 HOURS: what all others (than SKY 2) have together then");
        due(council("now drizzle").dry(0), 0);
        due(council("now drizzle").dry(1), 8000);
        due(council("now downpour").dry(0), 10000);
        due(council("now sun").dry(0), 10000);
        due(council("now fog").dry(0), 10000);
        sentence("DROUGHT of N DAYS (0 to 12): 10000, for each DAY times DRY of 12 HOURS by 10000, rounded down each time");
        x = council("sky dry 09100");
        int day = x.dry(12);
        int left = 10000;
        for (int n = 0; n <= 12; n++) {
            due(x.drought(n), left);
            left = left * day / 10000;
        }
        due(day > 2000 && day < 3000, true);
        due(council("sky dry 01000").drought(12), 10000);
        due(council("sky dry 00100").drought(1), 0);
        due(council("sky dry 00100").drought(0), 10000);
        sentence("DROUGHT: for each DAY DRY of 12 HOURS from SKY now");
        due(council("now drizzle").drought(0), 10000);
        due(council("now drizzle").drought(1), council("now drizzle").dry(12));
        sentence("ENOUGH: the fewest HOURS N (0 to 12) by which DRY is below 5000");
        due(new DrizzleVote().enough(), 4);
        due(council("now drizzle").enough(), 0);
        due(council("sky dry 00100").enough(), 1);
        sentence("ENOUGH: 5000 are not below 5000");
        x = council("sky dry 01100");
        due(x.dry(1), 5000);
        due(x.enough(), 2);
        sentence("ENOUGH: 4999 are below 5000");
        x = council("sky dry 12300");
        due(x.dry(1), 4999);
        due(x.enough(), 1);
        lastHours();
    }

    /** Of four skies of which each gives a fifth part, rounded down, to each, and to sun what is over. */
    private static int dryAfter(int hours) {
        int[] has = {0, 10000, 0, 0};
        for (int n = 0; n < hours; n++) {
            int[] then = new int[4];
            for (int from = 0; from < 4; from++) {
                for (int to = 0; to < 4; to++) {
                    then[to] += has[from] / 5;
                }
                then[0] += has[from] % 5;
            }
            has = then;
        }
        return has[0] + has[1] + has[2] + has[3];
    }

    private static void lastHours() {
        sentence("ENOUGH: N is 12 at most");
        DrizzleVote x = council("sky dry 77100;sky sun 77100");
        due(x.enough(), 11);
        x = council("sky dry 88100;sky sun 88100");
        due(x.dry(11) >= 5000, true);
        due(x.dry(12) < 5000, true);
        due(x.enough(), 12);
        sentence("ENOUGH: none");
        x = council("sky dry 99100;sky sun 99100");
        due(x.dry(12) >= 5000, true);
        due(x.enough(), NONE);
        due(council("sky dry 01000").enough(), NONE);
    }

    private static void trials() {
        sentence("TRIAL of N HOURS (0 to 60) from now: of none MOTIONS carried already, and no HOUR of SKY 2");
        DrizzleVote x = council(ROUND + ";" + ONE + ";member at 0;motion of 0 takes 1 worth 7;paper 0 0;paper 5 1;now sun");
        due(x.trial(0, false), 0);
        due(x.trial(0, true), 0);
        due(council("now drizzle").trial(0, true), 0);
        sentence("TRIAL: MOTIONS carried then, as bits; in how many of these HOURS the SKY was 2");
        due(x.trial(1, false), 0);
        x = council(ROUND + ";" + ONE + ";motion of 0 takes 1 worth 7;paper 0 0;paper 5 1");
        due(x.trial(1, false), 1);
        due(x.trial(1, true), 1);
        due(x.trial(5, false), 1);
        due(x.trial(5, true), 2);
        due(x.trial(6, false), 3);
        due(x.trial(4, true), 1);
        due(x.trial(59, true), 15);
        due(x.trial(60, true), 15);
        due(x.trial(57, true), 15);
        due(x.trial(56, true), 14);
        sentence("TRIAL: from now (draws, too)");
        x = council(ONE + ";paper 0 0;sky dry 10001");
        for (int seed = 0; seed < 20; seed++) {
            x.seed(seed);
            int carried = x.trial(1, false);
            due(x.hours(1), carried);
            x.undo();
        }
        sentence("SPAN: N 0 to 60: of none what is carried already");
        x = council(ROUND + ";" + ONE + ";motion of 0 takes 1 worth 7;paper 0 0;paper 5 1");
        due(x.span(0, true), 0);
        due(x.span(0, false), 0);
        due(x.span(60, true), 8);
        due(x.span(60, false), 8);
        x.hours(1);
        due(x.span(0, true), 1);
        due(x.span(0, false), 1);
        sentence("SPAN: the least and the greatest WORTH of MOTIONS carried together so from SEED 1, 2, .. 6");
        for (int seed = 0; seed <= 7; seed++) {
            spanOf(seed);
        }
        sentence("SPAN: of 8 MOTIONS of WORTH 99, all carried");
        x = council("member at 0|" + times(8, "motion of 0 takes 1 worth 99") + "|" + papers(), "lapse if sky<0");
        due(x.span(8, true), 792);
        due(x.span(8, false), 792);
        due(x.span(7, true), 693);
        due(x.span(7, false), 693);
    }

    private static String papers() {
        StringBuilder b = new StringBuilder();
        for (int motion = 0; motion < 8; motion++) {
            b.append(motion > 0 ? ";" : "").append("paper ").append(motion).append(' ').append(motion);
        }
        return b.toString();
    }

    private static int drawOf(int seed) {
        return (int) ((1103515245L * seed + 12345L) / 65536 % 32768);
    }

    /** Weights by which of the seeds 0 to 7 this one alone gives fog, by which the motion is carried. */
    private static void spanOf(int only) {
        for (int sum = 2; sum <= 45; sum++) {
            for (int rest = Math.max(0, sum - 10); rest < sum && rest <= 27; rest++) {
                boolean alone = true;
                for (int seed = 0; seed <= 7; seed++) {
                    alone &= drawOf(seed) % sum == rest == (seed == only);
                }
                if (alone) {
                    spanBy(sum, rest, only >= 1 && only <= 6);
                    return;
                }
            }
        }
        fails("no weights are found for SEED " + only);
    }

    private static void spanBy(int sum, int rest, boolean counts) {
        // sun, dry and drizzle below the rest, fog at it, downpour above it
        StringBuilder text = new StringBuilder("sky dry ");
        int left = rest;
        for (int sky = 0; sky < 3; sky++) {
            text.append(Math.min(9, left));
            left -= Math.min(9, left);
        }
        text.append(1).append(sum - rest - 1);
        DrizzleVote x = council(text + ";member at 0;motion of 0 takes 1 worth 9;paper 0 0;day 7", "lapse if sky<3 or sky>3");
        x.seed(123456);
        due(x.span(1, true), counts ? 9 : 0);
        due(x.span(1, false), 0);
        law(x, "lapse if sky>2 and sky<4");
        due(x.span(1, true), 9);
        due(x.span(1, false), counts ? 0 : 9);
        due(seedOf(x), 123456);
    }

    public static void main(String[] args) {
        chances();
        carries();
        soonest();
        when();
        worst();
        best();
        showers();
        hastes();
        dry();
        trials();
        ends("ChanceEdgesTest");
    }
}
