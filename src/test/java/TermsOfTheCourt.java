/** Of the sentences under "Terms", the ones about summoning, pleas and refusals. */
final class TermsOfTheCourt {
    private static final int TERMS = Sentences.TERMS;

    private TermsOfTheCourt() {
    }

    static void test() {
        summoning();
        pleas();
        hearings();
        reasons();
        refusedCalls();
    }

    private static void summoning() {
        Sentences.test(TERMS, "A throw at a party costs as many coins as its arm, and these can be owed: the coins of "
                + "the court can be less than 0.", c -> {
            c.addParty(4, 3);
            c.setTree(1, 0, true);
            int[] coins = {49, 47, 44, 40, 39, 37, 34, 30};
            for (int i = 0; i < 8; i++) {
                int number = 8 * i;
                c.summon(0, number);
                Check.due("throw " + number, coins[i], () -> c.coins());
            }
            BoomerangCourt d = new BoomerangCourt();
            d.addParty(4, 3);
            d.buyBoomerangs(20);
            d.buyBoomerangs(3);
            d.setTree(1, 0, true);
            Check.due("4 coins", 4, () -> d.coins());
            d.summon(0, 16);
            Check.due("1 coin", 1, () -> d.coins());
            Check.due("dearer than what there is", false, () -> d.summon(0, 24));
            Check.due("is owed", -3, () -> d.coins());
            Check.due("and more", false, () -> d.summon(0, 24));
            Check.due("is owed too", -7, () -> d.coins());
            Check.due("by the accounts as well", -7, () -> d.coinsByAccounts());
        });
        Sentences.test(TERMS, "If the party is served, the boomerang stays with it and does not come back to the "
                + "court, and a plea of the party comes to wait.", c -> {
            c.addParty(1, 0);
            Check.due("throw 0 would be caught", 'c', () -> c.flightEnd(0));
            Check.due("but serves", true, () -> c.summon(0, 0));
            Check.due("so it stays", 9, () -> c.boomerangs());
            Check.due("and is not caught", 0.0f, () -> c.caughtShare());
            Check.due("a plea waits", 1, () -> c.pleaCount());
            Check.due("of the party", 0, () -> c.pleaParty(0));
            c.addParty(7, 1);
            Check.due("served with the last step but one", true, () -> c.summon(1, 0));
            Check.due("stays too", 8, () -> c.boomerangs());
        });
        Sentences.test(TERMS, "If nobody is served, the court keeps the boomerang if it is caught, and loses it "
                + "otherwise.", c -> {
            c.addParty(4, 3);
            c.addParty(1, 0);
            Check.due("over another party", false, () -> c.summon(0, 0));
            Check.due("caught", 10, () -> c.boomerangs());
            c.setWind(0, 1);
            Check.due("on the ground", false, () -> c.summon(0, 0));
            Check.due("lost", 9, () -> c.boomerangs());
            c.setWind(0, 0);
            c.setTree(2, 2, true);
            Check.due("stopped", false, () -> c.summon(0, 0));
            Check.due("lost at the tree", 8, () -> c.boomerangs());
            Check.due("no plea", 0, () -> c.pleaCount());
        });
        Sentences.test(TERMS, "Initially, the court has 10 boomerangs and 50 coins.", c -> {
            Check.due("boomerangs", 10, () -> c.boomerangs());
            Check.due("coins", 50, () -> c.coins());
            Check.due("coins by accounts", 50, () -> c.coinsByAccounts());
        });
    }

    private static void pleas() {
        Sentences.test(TERMS, "At most one plea of each party waits.", c -> {
            c.addParty(1, 0);
            c.addParty(1, 1);
            c.summon(0, 0);
            Check.refused("a second plea", c, 5, 0, () -> c.summon(0, 0));
            Check.refused("even by a throw that does not serve", c, 5, 0, () -> c.summon(0, 4));
            Check.due("another party's", true, () -> c.summon(1, 1));
            Check.due("two pleas", 2, () -> c.pleaCount());
            c.pass(25);
            Check.due("when it has expired", true, () -> c.summon(0, 0));
            c.setSitting(1, true);
            c.hear(0);
            Check.due("when it has been heard", true, () -> c.summon(0, 0));
        });
        Sentences.test(TERMS, "Pleas have the indices 0, 1 and so on in the order in which they came; when one is "
                + "heard or expires, the indices of the later ones decrease by 1.", c -> {
            Sentences.sitAlways(c);
            c.addParty(1, 0);
            c.addParty(4, 0);
            c.addParty(1, 1);
            c.addParty(0, 1);
            c.addParty(7, 1);
            c.summon(3, 2);
            c.summon(1, 24);
            c.summon(0, 0);
            c.summon(4, 3);
            c.summon(2, 1);
            order(c, "as they came, not by parties or hours", 3, 1, 0, 4, 2);
            c.hear(2);
            order(c, "the middle one heard", 3, 1, 4, 2);
            c.hear(0);
            order(c, "the first one heard", 1, 4, 2);
            c.pass(22);
            order(c, "in hour 24", 1, 4, 2);
            c.hear(2);
            order(c, "the last one heard, and one in the middle expired", 1);
            c.pass(1);
            order(c, "none left");
            c.summon(1, 24);
            c.summon(0, 0);
            order(c, "from 0 on again", 1, 0);
        });
        Sentences.test(TERMS, "A plea can be heard from the hour on that is the present one plus a quarter of the "
                + "steps to the party, rounded down, until the hour that is 24 greater than its first hour, but only "
                + "while the court sits.", c -> {
            Sentences.sitAlways(c);
            quarter(0, 0, 1, 0, 0);
            quarter(0, 0, 2, 2, 0);
            quarter(0, 0, 1, 3, 1);
            quarter(0, 0, 7, 1, 1);
            quarter(24, 0, 4, 0, 1);
            quarter(24, 0, 0, 4, 2);
            // In the strongest wind, throw 31 enters these cells with its steps 31, 32 and 34.
            quarter(31, 3, 3, 4, 7);
            quarter(31, 3, 3, 3, 8);
            quarter(31, 3, 3, 1, 8);
            c.pass(5);
            c.addParty(4, 0);
            c.addParty(1, 0);
            c.summon(0, 24);
            c.summon(1, 0);
            Check.refused("before its first hour", c, 7, 1, () -> c.hear(0));
            c.pass(1);
            Check.due("in its first hour", 12, () -> c.hear(0));
            c.undo();
            c.pass(24);
            Check.due("in its last hour", 36, () -> c.hear(0));
            c.undo();
            c.setSitting(6, false);
            Check.refused("not while the court does not sit", c, 6, 6, () -> c.hear(0));
            Check.due("the last hour", 30, () -> c.pleaUntil(0));
            c.pass(1);
            Check.badIndex("never behind its last hour", () -> c.hear(0));
        });
        Sentences.test(TERMS, "In an hour, at most one plea is heard.", c -> {
            c.addParty(1, 0);
            c.addParty(1, 1);
            c.pass(16);
            c.summon(0, 0);
            c.summon(1, 1);
            Check.due("hours enough for two pleas", 2, () -> c.mostHearings());
            c.pass(1);
            for (int hour = 8; hour < 17; hour++) {
                c.setSitting(hour, false);
            }
            Check.due("hour 17 for two pleas", 1, () -> c.mostHearings());
            Check.due("hour 17 for two pleas by chains", 1, () -> c.mostHearingsByChains());
            c.hear(0);
            Check.refused("hour 18 is too late for the other", c, 6, 18, () -> c.hear(0));
        });
    }

    private static void order(BoomerangCourt c, String what, int... parties) {
        Check.due(what, parties.length, () -> c.pleaCount());
        for (int i = 0; i < parties.length; i++) {
            int plea = i;
            Check.due(what + ": plea " + i, parties[i], () -> c.pleaParty(plea));
        }
        Check.badIndex(what + ": no further plea", () -> c.pleaParty(parties.length));
    }

    private static void quarter(int number, int strength, int x, int y, int hours) {
        BoomerangCourt c = new BoomerangCourt();
        c.setWind(0, strength);
        c.addParty(x, y);
        c.pass(40);
        c.summon(0, number);
        Check.due("first hour of throw " + number + " at " + x + " " + y, 40 + hours, () -> c.pleaFrom(0));
        Check.due("last hour of throw " + number + " at " + x + " " + y, 64 + hours, () -> c.pleaUntil(0));
    }

    private static void hearings() {
        Sentences.test(TERMS, "The fine is 3 times the arm of the throw plus the number of hours between the first "
                + "hour of the plea and the present hour.", c -> {
            for (int arm = 1; arm <= 4; arm++) {
                for (int waited : new int[] {0, 1, 23, 24}) {
                    for (int curve : new int[] {0, 32}) {
                        fine(8 * (arm - 1) + curve, arm, waited);
                    }
                }
            }
            Sentences.sitAlways(c);
            Sentences.addPartiesRoundTheBench(c);
            int[] arms = {4, 1, 3, 2};
            for (int party = 0; party < 4; party++) {
                c.summon(party, party + 8 * (arms[party] - 1));
            }
            Check.due("arm 1, when another arm was before it", 3, () -> c.hear(1));
            Check.due("arm 3, at its new index, behind its first hour by 1", 10, () -> c.hear(1));
            Check.due("arm 4", 14, () -> c.hear(0));
            Check.due("arm 2, at its third index", 9, () -> c.hear(0));
            c.summon(4, 4);
            c.pass(1);
            c.summon(5, 5 + 24);
            c.pass(24);
            Check.due("arm 4, when another one has expired", 12 + 24, () -> c.hear(0));
        });
        Sentences.test(TERMS, "Hours are counted from 0; the hour of the day is the hour modulo 24.", c -> {
            Check.due("the first hour", 0, () -> c.hour());
            c.addParty(1, 0);
            c.summon(0, 0);
            Check.refused("hour 0", c, 6, 0, () -> c.hear(0));
            c.pass(23);
            Check.refused("hour 23", c, 6, 23, () -> c.hear(0));
            c.pass(1);
            Check.due("hour 24", 24, () -> c.hour());
            Check.refused("hour 24 is hour 0 of the day", c, 6, 0, () -> c.hear(0));
            c.pass(1);
            c.summon(0, 0);
            Check.refused("hour 25 is hour 1 of the day", c, 6, 1, () -> c.hear(0));
            c.pass(23);
            c.setSitting(0, true);
            Check.due("the court sits in hour 48", 3 + 23, () -> c.hear(0));
        });
        Sentences.test(TERMS, "Initially the court sits in the hours of the day 8 to 17.", c -> {
            Check.due("the sum", 256 + 512 + 1024 + 2048 + 4096 + 8192 + 16384 + 32768 + 65536 + 131072,
                    () -> c.sittingBits());
            c.addParty(1, 0);
            c.pass(7);
            c.summon(0, 0);
            Check.refused("hour 7", c, 6, 7, () -> c.hear(0));
            c.pass(1);
            Check.due("hour 8", 4, () -> c.hear(0));
            c.pass(8);
            c.summon(0, 0);
            Check.due("hour 17", 3, () -> c.hear(0));
            c.summon(0, 0);
            Check.refused("hour 18", c, 6, 18, () -> c.hear(0));
        });
        Sentences.test(TERMS, "When an hour passes, the present hour increases by 1, and pleas expire whose last hour "
                + "is then less than it.", c -> {
            c.addParty(1, 0);
            c.addParty(1, 1);
            c.pass(8);
            c.summon(0, 0);
            Check.due("none expires", 0, () -> c.pass(23));
            Check.due("hour 31", 31, () -> c.hour());
            c.summon(1, 1);
            Check.due("nor in the last hour", 0, () -> c.pass(1));
            Check.due("hour 32", 32, () -> c.hour());
            Check.due("both wait", 2, () -> c.pleaCount());
            Check.due("by a hearing an hour passes too", 4, () -> c.hear(1));
            Check.due("hour 33", 33, () -> c.hour());
            Check.due("and a plea expires", 0, () -> c.pleaCount());
        });
    }

    private static void fine(int number, int arm, int waited) {
        BoomerangCourt c = new BoomerangCourt();
        Sentences.sitAlways(c);
        c.addParty(1, 0);
        c.summon(0, number);
        c.pass(30);
        c.summon(0, number);
        if (waited > 0) {
            c.pass(waited);
        }
        Check.due("arm " + arm + ", " + waited + " hours", 3 * arm + waited, () -> c.hear(0));
        Check.due("arm " + arm + ", " + waited + " hours: paid", 50 - 2 * arm + 3 * arm + waited, () -> c.coins());
    }

    private static void reasons() {
        Sentences.test(TERMS, "A refused call has a reason with a detail.", c -> {
            Check.noSuchElement("no reason before", () -> c.refusalReason());
            Check.noSuchElement("no detail before", () -> c.refusalDetail());
            Check.refused("both behind, though the detail is 0", c, 3, 0, () -> c.setTree(0, 0, true));
        });
        Sentences.test(TERMS, "1: a tree is in the cell; the detail is the number of the cell.", c -> {
            c.setBench(4, 4);
            c.setTree(0, 0, true);
            c.setTree(7, 7, true);
            c.addParty(5, 5);
            Check.refused("cell 0", c, 1, 0, () -> c.setBench(0, 0));
            Check.refused("cell 63", c, 1, 63, () -> c.addParty(7, 7));
            Check.refused("cell 0 again", c, 1, 0, () -> c.moveParty(0, 0, 0));
        });
        Sentences.test(TERMS, "2: a party is in the cell; the detail is the party.", c -> {
            Sentences.addPartiesRoundTheBench(c);
            Check.refused("party 0", c, 2, 0, () -> c.setTree(1, 0, true));
            Check.refused("party 7", c, 2, 7, () -> c.setBench(1, 7));
            Check.refused("party 7 again", c, 2, 7, () -> c.moveParty(0, 1, 7));
            Check.refused("party 5", c, 2, 5, () -> c.moveParty(7, 7, 7));
        });
        Sentences.test(TERMS, "3: the bench is in the cell; the detail is the number of the cell.", c -> {
            Check.refused("cell 0", c, 3, 0, () -> c.setTree(0, 0, true));
            c.setBench(7, 7);
            Check.refused("cell 63", c, 3, 63, () -> c.setTree(7, 7, true));
            Check.refused("cell 63 again", c, 3, 63, () -> c.addParty(7, 7));
            c.addParty(1, 1);
            c.setBench(3, 1);
            Check.refused("cell 11", c, 3, 11, () -> c.moveParty(0, 3, 1));
        });
        Sentences.test(TERMS, "4: the court has no boomerang; the detail is its coins.", c -> {
            loseBoomerangs(c, 9);
            Check.due("the last boomerang", false, () -> c.summon(0, 0));
            Check.refused("40 coins", c, 4, 40, () -> c.summon(0, 0));
            c.buyBoomerangs(20);
            loseBoomerangs(c, 20);
            Check.refused("-20 coins", c, 4, -20, () -> c.summon(0, 24));
        });
        Sentences.test(TERMS, "5: a plea of the party waits; the detail is the index of the plea.", c -> {
            Sentences.addPartiesRoundTheBench(c);
            for (int party = 7; party >= 0; party--) {
                c.summon(party, party);
            }
            Check.refused("party 7 came first", c, 5, 0, () -> c.summon(7, 7));
            Check.refused("party 0 came last", c, 5, 7, () -> c.summon(0, 0));
            Check.refused("party 4 came fourth", c, 5, 3, () -> c.summon(4, 4));
        });
        Sentences.test(TERMS, "6: the court does not sit; the detail is the hour of the day.", c -> {
            c.addParty(1, 0);
            c.summon(0, 0);
            Check.refused("hour 0", c, 6, 0, () -> c.hear(0));
            c.pass(23);
            Check.refused("hour 23", c, 6, 23, () -> c.hear(0));
            c.pass(1);
            Check.refused("hour 24", c, 6, 0, () -> c.hear(0));
            Sentences.sitAlways(c);
            Check.due("when it sits", 27, () -> c.hear(0));
        });
        Sentences.test(TERMS, "7: the first hour of the plea is later than the present one; the detail is by how many "
                + "hours.", c -> {
            Sentences.sitAlways(c);
            // Throw 24 enters cell (0, 4) with its step 8.
            c.addParty(0, 4);
            c.summon(0, 24);
            Check.refused("2 hours", c, 7, 2, () -> c.hear(0));
            c.pass(1);
            Check.refused("1 hour", c, 7, 1, () -> c.hear(0));
            c.pass(1);
            Check.due("0 hours", 12, () -> c.hear(0));
        });
    }

    /** Throws at a party that is not in the way; a tree beside the bench stops the boomerangs. */
    private static void loseBoomerangs(BoomerangCourt c, int count) {
        if (c.partyCount() == 0) {
            c.addParty(4, 3);
            c.setTree(1, 0, true);
        }
        for (int i = 0; i < count; i++) {
            c.summon(0, 0);
        }
    }

    private static void refusedCalls() {
        Sentences.test(TERMS, "Planting a tree is refused for the reason 2 or 3; felling is not refused.", c -> {
            c.addParty(1, 0);
            Check.refused("at a party", c, 2, 0, () -> c.setTree(1, 0, true));
            Check.refused("at the bench", c, 3, 0, () -> c.setTree(0, 0, true));
            Check.due("at no other cell", 1, () -> c.setTree(2, 0, true));
            Check.due("nor at a tree", 1, () -> c.setTree(2, 0, true));
            Check.due("felling at a party", 1, () -> c.setTree(1, 0, false));
            Check.due("felling at the bench", 1, () -> c.setTree(0, 0, false));
            Check.due("felling a tree", 0, () -> c.setTree(2, 0, false));
            Check.due("felling no tree", 0, () -> c.setTree(2, 0, false));
        });
        Sentences.test(TERMS, "Setting the bench is refused for the reason 1 or 2.", c -> {
            c.setTree(1, 1, true);
            c.addParty(1, 0);
            Check.refused("at a tree", c, 1, 9, () -> c.setBench(1, 1));
            Check.refused("at a party", c, 2, 0, () -> c.setBench(1, 0));
            Check.due("not where it is", 0, () -> c.setBench(0, 0));
            Check.due("not at any other cell", 0, () -> c.setBench(2, 2));
        });
        Sentences.test(TERMS, "Adding and moving a party are refused for the reason 1, 2 or 3, where a party that is "
                + "moved can be in the cell itself.", c -> {
            c.setTree(1, 1, true);
            c.addParty(1, 0);
            c.addParty(2, 0);
            Check.refused("adding at a tree", c, 1, 9, () -> c.addParty(1, 1));
            Check.refused("adding at a party", c, 2, 1, () -> c.addParty(2, 0));
            Check.refused("adding at the bench", c, 3, 0, () -> c.addParty(0, 0));
            Check.refused("moving to a tree", c, 1, 9, () -> c.moveParty(1, 1, 1));
            Check.refused("moving to another party", c, 2, 0, () -> c.moveParty(1, 1, 0));
            Check.refused("moving to the bench", c, 3, 0, () -> c.moveParty(1, 0, 0));
            Check.due("moving to its own cell", 2, () -> c.moveParty(1, 2, 0));
            Check.due("moving on", 2, () -> c.moveParty(1, 3, 0));
            Check.due("to the cell that it left", 1, () -> c.moveParty(0, 2, 0));
        });
        Sentences.test(TERMS, "Summoning is refused for the reason 4 or otherwise 5.", c -> {
            c.addParty(1, 0);
            c.addParty(4, 3);
            c.summon(0, 0);
            Check.refused("a plea waits", c, 5, 0, () -> c.summon(0, 0));
            c.setTree(7, 0, true);
            for (int i = 0; i < 9; i++) {
                c.summon(1, 4);
            }
            Check.refused("no boomerang", c, 4, 40, () -> c.summon(1, 4));
            Check.refused("no boomerang, and a plea waits", c, 4, 40, () -> c.summon(0, 0));
            c.buyBoomerangs(1);
            Check.refused("a plea waits still", c, 5, 0, () -> c.summon(0, 0));
        });
        Sentences.test(TERMS, "Hearing is refused for the reason 6 or otherwise 7.", c -> {
            c.addParty(4, 0);
            c.summon(0, 24);
            Check.refused("not sitting, and too early", c, 6, 0, () -> c.hear(0));
            c.setSitting(0, true);
            Check.refused("too early", c, 7, 1, () -> c.hear(0));
            c.pass(1);
            Check.refused("not sitting", c, 6, 1, () -> c.hear(0));
            c.setSitting(1, true);
            Check.due("neither", 12, () -> c.hear(0));
        });
    }
}
