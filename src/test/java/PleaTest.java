/** Promises 28 to 38: the sitting, pleas, hearings and hours. */
public final class PleaTest {
    public static void main(String[] args) {
        setSitting();
        pleas();
        quarterOfTheSteps();
        hear();
        hearRefusals();
        hearMovesIndices();
        hearLetsOthersExpire();
        pass();
        mostHearings();
        mostHearingsLater();
        Check.end();
    }

    private static void setSitting() {
        BoomerangCourt c = new BoomerangCourt();
        Check.due("29 8 to 17", 0x3FF00, () -> c.sittingBits());
        Check.due("28 hour 0", false, () -> c.setSitting(0, true));
        Check.due("28 hour 23", false, () -> c.setSitting(23, true));
        Check.due("28 hour 8", true, () -> c.setSitting(8, false));
        Check.due("28 hour 8 again", false, () -> c.setSitting(8, false));
        Check.due("28 hour 17", true, () -> c.setSitting(17, true));
        Check.due("28 hour 18", false, () -> c.setSitting(18, false));
        Check.due("29 after", 0x3FE00 | 1 | 1 << 23, () -> c.sittingBits());
        Check.badIndex("28 hour 24", () -> c.setSitting(24, true));
        Check.badIndex("28 hour -1", () -> c.setSitting(-1, true));
        Check.due("29 unchanged", 0x3FE00 | 1 | 1 << 23, () -> c.sittingBits());
    }

    private static void pleas() {
        BoomerangCourt c = new BoomerangCourt();
        c.addParty(1, 0);
        c.addParty(2, 1);
        c.pass(5);
        c.summon(1, 0);
        c.pass(1);
        c.summon(0, 0);
        Check.due("30 two", 2, () -> c.pleaCount());
        Check.due("31 first", 1, () -> c.pleaParty(0));
        Check.due("31 second", 0, () -> c.pleaParty(1));
        Check.due("32 first", 5, () -> c.pleaFrom(0));
        Check.due("32 second", 6, () -> c.pleaFrom(1));
        Check.due("33 first", 29, () -> c.pleaUntil(0));
        Check.due("33 second", 30, () -> c.pleaUntil(1));
        for (int plea : new int[] {-1, 2, 8}) {
            Check.badIndex("31 plea " + plea, () -> c.pleaParty(plea));
            Check.badIndex("32 plea " + plea, () -> c.pleaFrom(plea));
            Check.badIndex("33 plea " + plea, () -> c.pleaUntil(plea));
        }
    }

    private static void quarterOfTheSteps() {
        // Throw 0 comes to (2, 2) after 3 steps, to (1, 3) after 4 and to (7, 1) after 7.
        int[][] places = {{2, 2, 0}, {1, 3, 1}, {7, 1, 1}};
        for (int[] place : places) {
            BoomerangCourt c = new BoomerangCourt();
            c.addParty(place[0], place[1]);
            c.summon(0, 0);
            Check.due("32 quarter", place[2], () -> c.pleaFrom(0));
            Check.due("33 24 later", place[2] + 24, () -> c.pleaUntil(0));
        }
        BoomerangCourt c = new BoomerangCourt();
        // The last part of throw 24 leads in direction 7 from (4, 4) over (7, 1), after 31 steps.
        c.addParty(7, 1);
        Check.due("18 the way", 15, () -> c.flightCell(24, 31));
        c.summon(0, 24);
        int first = firstSteps(c, 24, 15) / 4;
        Check.due("32 the first time counts", first, () -> c.pleaFrom(0));
    }

    private static int firstSteps(BoomerangCourt c, int number, int cell) {
        for (int steps = 1; steps <= c.flightLength(number); steps++) {
            if (c.flightCell(number, steps) == cell) {
                return steps;
            }
        }
        return -1;
    }

    private static void hear() {
        BoomerangCourt c = new BoomerangCourt();
        c.addParty(4, 0);
        c.pass(7);
        Check.due("24 arm 4", true, () -> c.summon(0, 24));
        Check.due("32 one hour later", 8, () -> c.pleaFrom(0));
        c.pass(3);
        Check.due("34 3 * 4 + 2", 14, () -> c.hear(0));
        Check.due("38 an hour passes", 11, () -> c.hour());
        Check.due("30 none waits", 0, () -> c.pleaCount());
        Check.due("39 coins", 60, () -> c.coins());
        Check.due("40 accounts", 60, () -> c.coinsByAccounts());
        Check.badIndex("34 no plea", () -> c.hear(0));
        Check.due("24 a further plea can come", true, () -> c.summon(0, 24));
        Check.due("26 both boomerangs are gone", 8, () -> c.boomerangs());
    }

    private static void hearRefusals() {
        BoomerangCourt c = new BoomerangCourt();
        Check.badIndex("34 no plea", () -> c.hear(0));
        c.addParty(1, 0);
        c.addParty(4, 0);
        c.pass(6);
        c.summon(0, 0);
        c.summon(1, 24);
        Check.refused("34 hour 6", c, 6, 6, () -> c.hear(0));
        Check.refused("34 reason 6 goes before 7", c, 6, 6, () -> c.hear(1));
        Check.badIndex("34 plea 2", () -> c.hear(2));
        Check.badIndex("34 plea -1", () -> c.hear(-1));
        c.setSitting(6, true);
        Check.refused("34 an hour too early", c, 7, 1, () -> c.hear(1));
        Check.due("38 a refused hearing takes no time", 6, () -> c.hour());
        Check.due("34 the first can be heard at once", 3, () -> c.hear(0));
        c.setSitting(7, true);
        Check.due("34 the second in its first hour", 12, () -> c.hear(0));
        c.pass(34);
        c.summon(0, 0);
        Check.refused("34 the hour of the day", c, 6, 18, () -> c.hear(0));
    }

    private static void hearMovesIndices() {
        BoomerangCourt c = new BoomerangCourt();
        c.addParty(1, 0);
        c.addParty(2, 1);
        c.addParty(2, 2);
        c.pass(8);
        c.summon(0, 0);
        c.summon(1, 0);
        c.summon(2, 0);
        Check.due("34 the one in the middle", 3, () -> c.hear(1));
        Check.due("30 two", 2, () -> c.pleaCount());
        Check.due("31 the first stays", 0, () -> c.pleaParty(0));
        Check.due("31 the last moves up", 2, () -> c.pleaParty(1));
        Check.refused("24 its new index", c, 5, 1, () -> c.summon(2, 0));
        Check.due("34 an hour late", 4, () -> c.hear(1));
        Check.due("34 two hours late", 5, () -> c.hear(0));
    }

    private static void hearLetsOthersExpire() {
        BoomerangCourt c = new BoomerangCourt();
        c.addParty(1, 0);
        c.addParty(2, 1);
        c.pass(9);
        c.summon(0, 0);
        c.summon(1, 0);
        c.pass(24);
        Check.due("30 in the last hour both wait", 2, () -> c.pleaCount());
        Check.due("34 in the last hour", 27, () -> c.hear(0));
        Check.due("30 the other expires", 0, () -> c.pleaCount());
    }

    private static void pass() {
        BoomerangCourt c = new BoomerangCourt();
        for (int hours : new int[] {0, -1, 49, Integer.MAX_VALUE, Integer.MIN_VALUE}) {
            Check.badArgument("37 hours " + hours, () -> c.pass(hours));
        }
        Check.due("38 none", 0, () -> c.hour());
        Check.due("37 1", 0, () -> c.pass(1));
        Check.due("37 48", 0, () -> c.pass(48));
        Check.due("38 49", 49, () -> c.hour());
        c.addParty(1, 0);
        c.addParty(4, 0);
        c.addParty(2, 1);
        c.summon(1, 24);
        c.summon(0, 0);
        Check.due("37 both wait until 73", 0, () -> c.pass(24));
        c.summon(2, 0);
        Check.due("30 three", 3, () -> c.pleaCount());
        Check.due("37 the second expires", 1, () -> c.pass(1));
        Check.due("31 the first stays", 1, () -> c.pleaParty(0));
        Check.due("31 the third moves up", 2, () -> c.pleaParty(1));
        Check.due("37 the others expire", 2, () -> c.pass(48));
        Check.due("30 none", 0, () -> c.pleaCount());
        Check.due("38 hours of more than a day", 122, () -> c.hour());
    }

    private static void most(BoomerangCourt c, String what, int want) {
        Check.due("35 " + what, want, () -> c.mostHearings());
        Check.due("36 " + what, want, () -> c.mostHearingsByChains());
    }

    private static void mostHearings() {
        BoomerangCourt c = new BoomerangCourt();
        most(c, "no plea", 0);
        c.addParty(1, 0);
        c.addParty(2, 1);
        c.addParty(2, 2);
        c.summon(0, 0);
        c.summon(1, 0);
        c.summon(2, 0);
        most(c, "ten hours for three", 3);
        for (int hour = 9; hour < 18; hour++) {
            c.setSitting(hour, false);
        }
        most(c, "one hour for three", 1);
        c.setSitting(0, true);
        most(c, "the present hour and the last hour, 24, count too", 3);
        c.pass(1);
        most(c, "hour 0 is over", 2);
        c.setSitting(8, false);
        c.setSitting(0, false);
        most(c, "the court never sits", 0);
        c.setSitting(1, true);
        most(c, "only the present hour", 1);
    }

    /** One plea comes later than the others, so it must wait, and lasts longer than they. */
    private static void mostHearingsLater() {
        BoomerangCourt c = new BoomerangCourt();
        for (int hour = 8; hour < 18; hour++) {
            c.setSitting(hour, false);
        }
        c.addParty(4, 0);
        c.addParty(1, 0);
        c.addParty(2, 1);
        c.summon(0, 24);
        c.summon(1, 0);
        c.summon(2, 0);
        Check.due("32 the first plea begins at 1", 1, () -> c.pleaFrom(0));
        c.setSitting(0, true);
        most(c, "hour 0 and hour 24", 2);
        c.setSitting(1, true);
        most(c, "hour 0, 1, 24 and, for the first, 25", 3);
        c.setSitting(0, false);
        most(c, "hour 1 for one of the two, hour 25 for the first", 2);
        c.pass(2);
        most(c, "only hour 25 is left", 1);
    }
}
