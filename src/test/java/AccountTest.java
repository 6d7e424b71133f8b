/** Promises 39 to 46: coins, refusals, shares, means and signatures. */
public final class AccountTest {
    public static void main(String[] args) {
        coins();
        refusals();
        share();
        mean();
        signature();
        Check.end();
    }

    private static void coins() {
        BoomerangCourt c = new BoomerangCourt();
        Check.due("39 first", 50, () -> c.coins());
        Check.due("40 first", 50, () -> c.coinsByAccounts());
        c.addParty(1, 0);
        c.pass(8);
        c.summon(0, 0);
        c.buyBoomerangs(3);
        Check.due("39 50 - 1 - 6", 43, () -> c.coins());
        Check.due("40 50 - 1 - 6", 43, () -> c.coinsByAccounts());
        c.hear(0);
        Check.due("39 and the fine", 46, () -> c.coins());
        Check.due("40 and the fine", 46, () -> c.coinsByAccounts());
    }

    private static void refusals() {
        BoomerangCourt c = new BoomerangCourt();
        Check.noSuchElement("41 nothing", () -> c.refusalReason());
        Check.noSuchElement("42 nothing", () -> c.refusalDetail());
        Check.badIndex("41 no refusal", () -> c.setTree(8, 8, true));
        Check.noSuchElement("41 an exception of another kind is none", () -> c.refusalReason());
        Check.refused("41 bench", c, 3, 0, () -> c.setTree(0, 0, true));
        c.setTree(5, 5, true);
        Check.due("41 stays", 3, () -> c.refusalReason());
        Check.refused("41 tree", c, 1, 45, () -> c.setBench(5, 5));
        c.undo();
        Check.due("41 is not undone", 1, () -> c.refusalReason());
        Check.due("42 is not undone", 45, () -> c.refusalDetail());
        c.save();
        Check.refused("41 bench again", c, 3, 0, () -> c.addParty(0, 0));
        c.restore();
        Check.due("41 is not saved", 3, () -> c.refusalReason());
        Check.due("42 is not saved", 0, () -> c.refusalDetail());
    }

    private static void share() {
        BoomerangCourt c = new BoomerangCourt();
        Check.due("43 no throws", "throws.ArithmeticException", () -> c.caughtShare());
        Check.due("44 no throws", "throws.ArithmeticException", () -> c.caughtShareBits());
        c.addParty(4, 3);
        c.setWind(0, 1);
        c.summon(0, 0);
        Check.due("43 none", 0.0f, () -> c.caughtShare());
        Check.due("44 none", 0, () -> c.caughtShareBits());
        c.setWind(0, 0);
        for (int caught = 1; caught <= 60; caught++) {
            c.summon(0, 0);
            float share = (float) caught / (float) (caught + 1);
            Check.due("43 all but one " + caught, share, () -> c.caughtShare());
            Check.due("44 all but one " + caught, Float.floatToIntBits(share), () -> c.caughtShareBits());
        }
        BoomerangCourt d = new BoomerangCourt();
        d.addParty(4, 3);
        d.summon(0, 0);
        Check.due("43 all", 1.0f, () -> d.caughtShare());
        Check.due("44 all", 0x3F800000, () -> d.caughtShareBits());
        smallShares();
    }

    private static void smallShares() {
        BoomerangCourt c = new BoomerangCourt();
        c.addParty(4, 3);
        c.summon(0, 0);
        c.setTree(1, 0, true);
        c.buyBoomerangs(20);
        for (int lost = 1; lost <= 29; lost++) {
            c.summon(0, 0);
            float share = 1.0f / (float) (lost + 1);
            Check.due("43 one of " + (lost + 1), share, () -> c.caughtShare());
            Check.due("44 one of " + (lost + 1), Float.floatToIntBits(share), () -> c.caughtShareBits());
        }
        BoomerangCourt d = new BoomerangCourt();
        d.addParty(1, 0);
        d.summon(0, 0);
        Check.due("43 a boomerang that stays with a party is not caught", 0.0f, () -> d.caughtShare());
    }

    private static void mean() {
        BoomerangCourt c = new BoomerangCourt();
        Check.due("45 no throws", "throws.ArithmeticException", () -> c.meanSteps());
        c.addParty(2, 2);
        c.summon(0, 0);
        Check.due("45 up to the party", 3.0, () -> c.meanSteps());
        c.addParty(5, 5);
        c.summon(1, 24);
        Check.due("45 up to the end", 35.0 / 2.0, () -> c.meanSteps());
        c.setTree(1, 0, true);
        c.summon(1, 0);
        Check.due("45 at once", 35.0 / 3.0, () -> c.meanSteps());
    }

    private static void signature() {
        BoomerangCourt c = new BoomerangCourt();
        Check.due("46 empty", 0L, () -> c.signature());
        c.setTree(1, 0, true);
        Check.due("46 a tree", 62L, () -> c.signature());
        c.addParty(2, 0);
        Check.due("46 a party", (62L ^ 4L) * 31, () -> c.signature());
        c.addParty(7, 7);
        Check.due("46 two", (((62L ^ 4L) * 31) ^ Long.MIN_VALUE) * 31, () -> c.signature());
        c.setBench(5, 5);
        c.setWind(1, 1);
        Check.due("46 the bench does not matter", (((62L ^ 4L) * 31) ^ Long.MIN_VALUE) * 31, () -> c.signature());
        c.moveParty(0, 3, 0);
        Check.due("46 moved", (((62L ^ 8L) * 31) ^ Long.MIN_VALUE) * 31, () -> c.signature());
    }
}
