import java.util.Random;

/** The sentences of the promises 28 to 38: the sitting, pleas, hearings and hours. */
final class PromisesOfPleas {
    private static final String PLEA = "- `plea`: the index of the plea";
    private static final String NO_PLEA = "Throws `IndexOutOfBoundsException` if there is no such plea";

    private PromisesOfPleas() {
    }

    static void test() {
        setSitting();
        pleaCount();
        ofPleas();
        hear();
        mostHearings();
        pass();
    }

    private static void setSitting() {
        Sentences.test(28, "Sets whether the court sits in an hour of the day.", c -> {
            c.addParty(1, 0);
            c.summon(0, 0);
            c.setSitting(0, true);
            Check.due("it sits", 3, () -> c.hear(0));
            c.undo();
            c.setSitting(0, false);
            Check.refused("it does not", c, 6, 0, () -> c.hear(0));
            c.setSitting(0, false);
            Check.refused("nor if it is said twice", c, 6, 0, () -> c.hear(0));
            c.setSitting(0, true);
            c.pass(24);
            Check.due("it sits on every day", 27, () -> c.hear(0));
        });
        Sentences.test(28, "- `hourOfDay`: the hour of the day, 0 to 23", c -> {
            Sentences.sitNever(c);
            c.setSitting(0, true);
            Check.due("0 is the first", 1, () -> c.sittingBits());
            c.setSitting(23, true);
            Check.due("23 is the last", 1 + 8388608, () -> c.sittingBits());
            Check.badIndex("-1", () -> c.setSitting(-1, true));
            Check.badIndex("24", () -> c.setSitting(24, true));
        });
        Sentences.test(28, "- `sits`: whether it sits", c -> {
            c.setSitting(23, true);
            Check.due("true", 0x83FF00, () -> c.sittingBits());
            c.setSitting(23, true);
            Check.due("true twice", 0x83FF00, () -> c.sittingBits());
            c.setSitting(23, false);
            Check.due("false", 0x3FF00, () -> c.sittingBits());
            c.setSitting(23, false);
            Check.due("false twice", 0x3FF00, () -> c.sittingBits());
        });
        Sentences.test(28, "Returns whether it sat in this hour before the call.", c -> {
            Check.due("hour 7 at first", false, () -> c.setSitting(7, false));
            Check.due("hour 8 at first", true, () -> c.setSitting(8, true));
            Check.due("hour 17 at first", true, () -> c.setSitting(17, false));
            Check.due("hour 17 then", false, () -> c.setSitting(17, true));
            Check.due("hour 17 again", true, () -> c.setSitting(17, true));
            Check.due("hour 18 at first", false, () -> c.setSitting(18, true));
            Check.due("hour 0 at first", false, () -> c.setSitting(0, true));
            Check.due("hour 23 at first", false, () -> c.setSitting(23, true));
            Check.due("hour 23 then", true, () -> c.setSitting(23, true));
        });
        Sentences.test(28, "Throws `IndexOutOfBoundsException` if there is no such hour", c -> {
            for (int hour : new int[] {-1, 24, 25, 32, 40, -24, Integer.MAX_VALUE, Integer.MIN_VALUE}) {
                Check.badIndex("hour " + hour, () -> c.setSitting(hour, true));
                Check.badIndex("not in hour " + hour, () -> c.setSitting(hour, false));
            }
            Check.due("nothing was set", 0x3FF00, () -> c.sittingBits());
        });
        Sentences.plain(29, "Returns the set.");
        Sentences.test(29, "Returns the set of the hours of the day in which the court sits: the sum of 2 to the power "
                + "of each of them.", c -> {
            Check.due("8 to 17", 261888, () -> c.sittingBits());
            Sentences.sitAlways(c);
            Check.due("all of them", 16777215, () -> c.sittingBits());
            Sentences.sitNever(c);
            Check.due("none", 0, () -> c.sittingBits());
        });
    }

    private static void pleaCount() {
        Sentences.plain(30, "Returns the number of pleas.");
        Sentences.test(30, "Returns the number of pleas that wait.", c -> {
            Check.due("none", 0, () -> c.pleaCount());
            Sentences.addPartiesRoundTheBench(c);
            for (int party = 0; party < 8; party++) {
                int count = party + 1;
                c.summon(party, party);
                Check.due("pleas " + count, count, () -> c.pleaCount());
            }
            Check.answerOf(() -> c.summon(7, 7));
            Check.due("8 at most", 8, () -> c.pleaCount());
            c.setSitting(0, true);
            c.hear(7);
            Check.due("7 when one is heard", 7, () -> c.pleaCount());
            c.pass(23);
            Check.due("7 in their last hour", 7, () -> c.pleaCount());
            c.pass(1);
            Check.due("none when they have expired", 0, () -> c.pleaCount());
        });
    }

    private static void ofPleas() {
        Sentences.plain(31, "Returns the party.");
        Sentences.test(31, "Returns the party of a plea.", c -> {
            eightPleas(c);
            for (int plea = 0; plea < 8; plea++) {
                int index = plea;
                Check.due("plea " + plea, 7 - index, () -> c.pleaParty(index));
            }
        });
        Sentences.test(31, PLEA, c -> {
            eightPleas(c);
            Check.due("0 is the first", 7, () -> c.pleaParty(0));
            Check.due("7 is the last", 0, () -> c.pleaParty(7));
        });
        Sentences.test(31, NO_PLEA, c -> Sentences.noPlea(c, (d, plea) -> d.pleaParty(plea)));
        Sentences.plain(32, "Returns the hour.");
        Sentences.test(32, "Returns the hour from which on a plea can be heard.", c -> {
            c.addParty(1, 0);
            c.addParty(1, 3);
            c.summon(0, 0);
            c.summon(1, 0);
            Check.due("the present hour, 0", 0, () -> c.pleaFrom(0));
            Check.due("the next one", 1, () -> c.pleaFrom(1));
            c.pass(20);
            Check.due("still 0", 0, () -> c.pleaFrom(0));
        });
        Sentences.test(32, PLEA, c -> {
            eightPleas(c);
            Check.due("0 is the first", 0, () -> c.pleaFrom(0));
            Check.due("7 is the last", 7, () -> c.pleaFrom(7));
        });
        Sentences.test(32, NO_PLEA, c -> Sentences.noPlea(c, (d, plea) -> d.pleaFrom(plea)));
        Sentences.plain(33, "Returns the hour.");
        Sentences.test(33, "Returns the last hour in which a plea can be heard.", c -> {
            Sentences.sitAlways(c);
            c.addParty(1, 3);
            c.summon(0, 0);
            Check.due("24 hours after hour 1", 25, () -> c.pleaUntil(0));
            c.pass(25);
            Check.due("then it is heard", 27, () -> c.hear(0));
            c.undo();
            c.pass(1);
            Check.badIndex("then it has expired", () -> c.pleaUntil(0));
        });
        Sentences.test(33, PLEA, c -> {
            eightPleas(c);
            Check.due("0 is the first", 24, () -> c.pleaUntil(0));
            Check.due("7 is the last", 31, () -> c.pleaUntil(7));
        });
        Sentences.test(33, NO_PLEA, c -> Sentences.noPlea(c, (d, plea) -> d.pleaUntil(plea)));
    }

    /** A plea in each of the hours 0 to 7, first of party 7, last of party 0. */
    private static void eightPleas(BoomerangCourt c) {
        Sentences.addPartiesRoundTheBench(c);
        for (int party = 7; party >= 0; party--) {
            c.summon(party, party);
            if (party > 0) {
                c.pass(1);
            }
        }
    }

    private static void hear() {
        Sentences.test(34, "Hears a plea in the present hour; then an hour passes.", c -> {
            c.addParty(1, 0);
            c.addParty(1, 1);
            c.pass(8);
            c.summon(0, 0);
            c.pass(1);
            c.summon(1, 1);
            c.hear(0);
            Check.due("an hour later", 10, () -> c.hour());
            Check.due("the other plea waits", 1, () -> c.pleaParty(0));
            Check.due("alone", 1, () -> c.pleaCount());
            c.pass(23);
            Check.due("the last hour of the other", 3 + 24, () -> c.hear(0));
            Check.due("the hour behind it", 34, () -> c.hour());
            c.undo();
            c.pass(1);
            Check.badIndex("it expires when an hour passes", () -> c.hear(0));
        });
        Sentences.test(34, PLEA, c -> {
            eightPleas(c);
            c.pass(1);
            Check.due("7 is the last, of party 0", 4, () -> c.hear(7));
            Check.due("0 is the first, of party 7", 3 + 9, () -> c.hear(0));
            Check.due("party 6 is then the first", 6, () -> c.pleaParty(0));
            Check.due("party 1 is then the last", 1, () -> c.pleaParty(5));
        });
        Sentences.test(34, "Returns the fine that is paid.", c -> {
            c.addParty(4, 0);
            c.pass(7);
            c.summon(0, 24);
            c.pass(1);
            Check.due("at once", 12, () -> c.hear(0));
            Check.due("it is paid", 50 - 4 + 12, () -> c.coins());
            Check.due("by the accounts", 50 - 4 + 12, () -> c.coinsByAccounts());
            c.summon(0, 24);
            c.pass(25);
            Check.due("in the last hour", 12 + 24, () -> c.hear(0));
            Check.due("it is paid too", 58 - 4 + 36, () -> c.coins());
        });
        Sentences.test(34, NO_PLEA, c -> {
            Sentences.noPlea(c, (d, plea) -> d.hear(plea));
            Check.noSuchElement("nothing was refused", () -> c.refusalReason());
        });
        Sentences.test(34, "Throws `UnsupportedOperationException` if it is refused; the reason is kept", c -> {
            c.addParty(4, 0);
            c.pass(7);
            c.summon(0, 24);
            Check.refused("the court does not sit", c, 6, 7, () -> c.hear(0));
            c.setSitting(7, true);
            Check.refused("too early", c, 7, 1, () -> c.hear(0));
            Check.due("no hour has passed", 7, () -> c.hour());
            Check.due("the plea waits", 1, () -> c.pleaCount());
            Check.due("nothing was paid", 46, () -> c.coins());
        });
    }

    private static void mostHearings() {
        Sentences.plain(35, "Returns the number of pleas.");
        Sentences.plain(36, "Returns the number of pleas.");
        Sentences.test(35, "Returns the greatest number of waiting pleas that can be heard from now on, found hour by "
                + "hour with a queue.", c -> most(c, d -> d.mostHearings()));
        Sentences.test(36, "Returns the same number as mostHearings(), found by giving hours to pleas along chains.",
                c -> most(c, d -> d.mostHearingsByChains()));
    }

    interface Count {
        int of(BoomerangCourt court);
    }

    private static void most(BoomerangCourt c, Count count) {
        Check.due("no plea", 0, () -> count.of(c));
        Sentences.addPartiesRoundTheBench(c);
        for (int party = 0; party < 8; party++) {
            c.summon(party, party);
        }
        Check.due("8 pleas and 10 hours", 8, () -> count.of(c));
        for (int hour = 8; hour < 18; hour++) {
            int hours = 17 - hour;
            c.setSitting(hour, false);
            Check.due("8 pleas and " + hours + " hours", Math.min(8, hours), () -> count.of(c));
        }
        c.setSitting(0, true);
        Check.due("hour 0, the present one, and hour 24, their last", 2, () -> count.of(c));
        c.pass(1);
        Check.due("hour 24 alone", 1, () -> count.of(c));
        c.setSitting(0, false);
        c.setSitting(1, true);
        Check.due("hour 1 alone", 1, () -> count.of(c));
        c.pass(1);
        Check.due("hour 25 is too late", 0, () -> count.of(c));
        farAhead(count);
        chains(count);
        crowds(count);
    }

    /** Up to eight pleas with many first hours and few sittings, counted by trying all sets of pleas. */
    private static void crowds(Count count) {
        for (int seed = 0; seed < 600; seed++) {
            Random random = new Random(seed);
            BoomerangCourt c = new BoomerangCourt();
            Sentences.sitNever(c);
            for (int i = random.nextInt(6); i >= 0; i--) {
                c.setSitting(random.nextInt(24), true);
            }
            for (int i = 0; i < 10; i++) {
                Check.answerOf(() -> c.addParty(random.nextInt(8), random.nextInt(8)));
            }
            int parties = c.partyCount();
            c.setWind(random.nextInt(8), 3);
            for (int i = 0; i < 40; i++) {
                Check.answerOf(() -> c.summon(random.nextInt(parties), 24 + random.nextInt(8)));
                if (random.nextInt(3) == 0) {
                    c.pass(1 + random.nextInt(4));
                }
                if (random.nextInt(6) == 0) {
                    c.setSitting(random.nextInt(24), random.nextBoolean());
                }
                // What an earlier count has left behind is not to matter to a later one.
                int most = count.of(c);
                if (i % 3 == 2) {
                    Check.due("seed " + seed + ", call " + i, mostByHand(c), () -> most);
                }
            }
        }
    }

    private static int mostByHand(BoomerangCourt c) {
        boolean[] canBeHeard = new boolean[256];
        canBeHeard[0] = true;
        int[] from = new int[c.pleaCount()];
        int[] until = new int[from.length];
        for (int plea = 0; plea < from.length; plea++) {
            from[plea] = c.pleaFrom(plea);
            until[plea] = c.pleaUntil(plea);
        }
        int sitting = c.sittingBits();
        int present = c.hour();
        for (int hour = present; hour <= present + 40; hour++) {
            boolean sits = (sitting >>> hour % 24 & 1) == 1;
            // The greater sets first, so that an hour adds only one plea to each.
            for (int set = 255; set >= 0 && sits; set--) {
                for (int plea = 0; plea < from.length && canBeHeard[set]; plea++) {
                    if (from[plea] <= hour && hour <= until[plea]) {
                        canBeHeard[set | 1 << plea] = true;
                    }
                }
            }
        }
        int most = 0;
        for (int set = 0; set < 256; set++) {
            most = canBeHeard[set] ? Math.max(most, Integer.bitCount(set)) : most;
        }
        return most;
    }

    /** The pleas that lie farthest ahead: their first hour is 8 hours on, their last one 32. */
    private static void farAhead(Count count) {
        BoomerangCourt c = new BoomerangCourt();
        Sentences.sitNever(c);
        c.setWind(0, 3);
        c.addParty(3, 3);
        c.addParty(3, 1);
        c.summon(0, 31);
        c.summon(1, 31);
        Check.due("the first hour of one", 8, () -> c.pleaFrom(0));
        Check.due("the first hour of the other", 8, () -> c.pleaFrom(1));
        c.setSitting(7, true);
        Check.due("hour 7 is too early, but hour 31 is not too late", 1, () -> count.of(c));
        c.setSitting(7, false);
        c.setSitting(8, true);
        Check.due("hour 8 and hour 32", 2, () -> count.of(c));
        c.pass(9);
        Check.due("hour 32 alone", 1, () -> count.of(c));
        c.undo();
        c.setSitting(8, false);
        c.setSitting(9, true);
        Check.due("hour 9, but hour 33 is too late", 1, () -> count.of(c));
        c.pass(10);
        Check.due("hour 33 is too late", 0, () -> count.of(c));
    }

    /** Pleas that came in another order than that of their hours, and must give way to each other. */
    private static void chains(Count count) {
        BoomerangCourt c = new BoomerangCourt();
        Sentences.sitNever(c);
        // Throw 24 serves these after 4, 8 and 1 steps, so their first hours are 1, 2 and 0.
        c.addParty(4, 0);
        c.addParty(0, 4);
        c.addParty(1, 0);
        c.summon(1, 24);
        c.summon(0, 24);
        c.summon(2, 24);
        Check.due("first hour of party 1", 2, () -> c.pleaFrom(0));
        Check.due("first hour of party 0", 1, () -> c.pleaFrom(1));
        Check.due("first hour of party 2", 0, () -> c.pleaFrom(2));
        c.setSitting(2, true);
        Check.due("hours 2 and 26, which is too late for two of them", 2, () -> count.of(c));
        c.setSitting(1, true);
        Check.due("hours 1, 2, 25 and 26", 3, () -> count.of(c));
        c.setSitting(2, false);
        Check.due("hours 1 and 25, which is too late for party 2", 2, () -> count.of(c));
        c.pass(2);
        Check.due("hour 25 alone", 1, () -> count.of(c));
        c.setSitting(2, true);
        Check.due("hours 2, 25 and 26", 3, () -> count.of(c));
        c.setSitting(1, false);
        Check.due("hours 2 and 26", 2, () -> count.of(c));
        c.pass(23);
        Check.due("hour 26 for party 1 alone", 1, () -> count.of(c));
    }

    private static void pass() {
        Sentences.test(37, "Lets hours pass.", c -> {
            c.pass(1);
            Check.due("1", 1, () -> c.hour());
            c.pass(47);
            Check.due("48", 48, () -> c.hour());
        });
        Sentences.test(37, "- `hours`: the number of hours, 1 to 48", c -> {
            c.pass(48);
            Check.due("48 is the most", 48, () -> c.hour());
            c.pass(1);
            Check.due("1 is the least", 49, () -> c.hour());
            Check.badArgument("0", () -> c.pass(0));
            Check.badArgument("49", () -> c.pass(49));
        });
        Sentences.test(37, "Returns the number of pleas that expire in these hours.", c -> {
            Check.due("none waits", 0, () -> c.pass(48));
            Sentences.addPartiesRoundTheBench(c);
            for (int party = 0; party < 8; party++) {
                c.summon(party, party);
            }
            Check.due("up to their last hour", 0, () -> c.pass(24));
            c.undo();
            Check.due("one hour more", 8, () -> c.pass(25));
            c.undo();
            c.pass(24);
            Check.due("the hour behind their last", 8, () -> c.pass(1));
            Check.due("none is left", 0, () -> c.pass(48));
            BoomerangCourt d = new BoomerangCourt();
            eightPleas(d);
            Check.due("the hours 8 to 27 of them that end in 24 to 31", 3, () -> d.pass(20));
            Check.due("the next hour", 1, () -> d.pass(1));
            Check.due("party 3 is the first", 3, () -> d.pleaParty(0));
            Check.due("the rest, some time within 48 hours", 4, () -> d.pass(48));
        });
        Sentences.test(37, "Throws `IllegalArgumentException` if the number is out of range", c -> {
            for (int hours : new int[] {0, -1, 49, 50, -48, Integer.MAX_VALUE, Integer.MIN_VALUE}) {
                Check.badArgument("hours " + hours, () -> c.pass(hours));
            }
            Check.due("none has passed", 0, () -> c.hour());
        });
        Sentences.plain(38, "Returns the number of hours.");
        Sentences.test(38, "Returns the number of hours that have passed.", c -> {
            Check.due("none", 0, () -> c.hour());
            c.addParty(1, 0);
            c.pass(8);
            Check.due("8", 8, () -> c.hour());
            c.summon(0, 0);
            c.hear(0);
            Check.due("a hearing is an hour", 9, () -> c.hour());
            c.pass(48);
            Check.due("more than a day", 57, () -> c.hour());
            c.undo();
            c.undo();
            Check.due("undone", 8, () -> c.hour());
        });
    }
}
