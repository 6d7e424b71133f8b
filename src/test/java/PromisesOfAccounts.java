/** The sentences of the promises 39 to 46: coins, refusals, shares, means and signatures. */
final class PromisesOfAccounts {
    private static final String NO_THROWS = "Throws `ArithmeticException` if there were no throws";
    private static final String NO_REFUSAL = "Throws `NoSuchElementException` if nothing was refused";

    private PromisesOfAccounts() {
    }

    static void test() {
        coins();
        refusals();
        share();
        mean();
        signature();
    }

    private static void coins() {
        Sentences.plain(39, "Returns the number of coins.");
        Sentences.test(39, "Returns the coins of the court.", c -> spend(c, d -> d.coins()));
        Sentences.plain(40, "Returns the number of coins.");
        Sentences.test(40, "Returns the same number as coins(): the coins that it had initially, plus the fines, minus "
                + "what was spent on throws and boomerangs.", c -> spend(c, d -> d.coinsByAccounts()));
    }

    interface Count {
        int of(BoomerangCourt court);
    }

    private static void spend(BoomerangCourt c, Count coins) {
        Check.due("initially", 50, () -> coins.of(c));
        c.addParty(1, 0);
        c.summon(0, 24);
        Check.due("a throw of arm 4", 46, () -> coins.of(c));
        Check.answerOf(() -> c.summon(0, 24));
        Check.due("a refused throw", 46, () -> coins.of(c));
        c.buyBoomerangs(20);
        Check.due("20 boomerangs", 6, () -> coins.of(c));
        c.pass(8);
        c.hear(0);
        Check.due("a fine of 12 + 8", 26, () -> coins.of(c));
        c.save();
        c.buyBoomerangs(13);
        Check.due("0 coins", 0, () -> coins.of(c));
        Check.answerOf(() -> c.buyBoomerangs(1));
        Check.due("still 0 coins", 0, () -> coins.of(c));
        c.summon(0, 0);
        Check.due("-1 coin", -1, () -> coins.of(c));
        c.undo();
        Check.due("0 again", 0, () -> coins.of(c));
        c.restore();
        Check.due("26 again", 26, () -> coins.of(c));
    }

    private static void refusals() {
        Sentences.test(41, "Returns the reason of the refusal that was kept last.", c -> {
            c.addParty(1, 0);
            Check.answerOf(() -> c.setTree(0, 0, true));
            Check.due("the bench", 3, () -> c.refusalReason());
            Check.answerOf(() -> c.setTree(1, 0, true));
            Check.due("then a party", 2, () -> c.refusalReason());
            c.setTree(1, 1, true);
            Check.due("a call that is not refused keeps it", 2, () -> c.refusalReason());
            Check.answerOf(() -> c.setTree(8, 0, true));
            Check.due("so does one that fails", 2, () -> c.refusalReason());
            Check.due("so does asking for it", 2, () -> c.refusalReason());
            c.undo();
            Check.due("so does undo", 2, () -> c.refusalReason());
        });
        Sentences.test(41, "Returns the reason, 1 to 7.", c -> {
            reasonsInTurn(c, new int[] {1, 2, 3, 5, 6, 7, 4}, d -> d.refusalReason());
        });
        Sentences.test(41, NO_REFUSAL, c -> nothingRefused(c, d -> d.refusalReason()));
        Sentences.plain(42, "Returns the detail.");
        Sentences.test(42, "Returns the detail of the refusal that was kept last.", c -> {
            reasonsInTurn(c, new int[] {63, 1, 0, 1, 6, 1, 40}, d -> d.refusalDetail());
        });
        Sentences.test(42, NO_REFUSAL, c -> nothingRefused(c, d -> d.refusalDetail()));
    }

    /** The reasons 1, 2, 3, 5, 6, 7 and 4. */
    private static void reasonsInTurn(BoomerangCourt c, int[] due, Count count) {
        c.setTree(7, 7, true);
        c.addParty(1, 0);
        c.addParty(4, 0);
        c.pass(6);
        Check.answerOf(() -> c.setBench(7, 7));
        Check.due("a tree", due[0], () -> count.of(c));
        Check.answerOf(() -> c.setBench(4, 0));
        Check.due("a party", due[1], () -> count.of(c));
        Check.answerOf(() -> c.addParty(0, 0));
        Check.due("the bench", due[2], () -> count.of(c));
        c.summon(0, 0);
        c.summon(1, 24);
        Check.answerOf(() -> c.summon(1, 24));
        Check.due("a plea waits", due[3], () -> count.of(c));
        Check.answerOf(() -> c.hear(1));
        Check.due("the court does not sit", due[4], () -> count.of(c));
        c.setSitting(6, true);
        Check.answerOf(() -> c.hear(1));
        Check.due("too early", due[5], () -> count.of(c));
        c.hear(0);
        c.setTree(1, 1, true);
        for (int i = 0; i < 8; i++) {
            c.summon(0, 1);
        }
        Check.answerOf(() -> c.summon(0, 1));
        Check.due("no boomerang, and 50 - 1 - 4 + 3 - 8 coins", due[6], () -> count.of(c));
    }

    private static void nothingRefused(BoomerangCourt c, Count count) {
        Check.noSuchElement("a new court", () -> count.of(c));
        c.addParty(1, 0);
        c.setTree(1, 1, true);
        Check.noSuchElement("nothing but changes", () -> count.of(c));
        Check.answerOf(() -> c.setTree(8, 8, true));
        Check.answerOf(() -> c.buyBoomerangs(0));
        Check.answerOf(() -> c.summon(0, 64));
        Check.answerOf(() -> c.hear(0));
        Check.answerOf(() -> c.bestThrow(1));
        Check.answerOf(() -> Check.run(c, "buy 0"));
        Check.answerOf(() -> Check.run(c, "buy"));
        Check.noSuchElement("exceptions that are no refusals", () -> count.of(c));
        Check.due("felling at the bench", 1, () -> c.setTree(0, 0, false));
        Check.due("moving to the own cell", 1, () -> c.moveParty(0, 1, 0));
        Check.noSuchElement("what is not refused", () -> count.of(c));
        Check.answerOf(() -> c.setTree(0, 0, true));
        Check.due("a refusal", false, () -> Check.answerOf(() -> count.of(c)) instanceof String);
    }

    interface Share {
        Object of(BoomerangCourt court);
    }

    interface Due {
        Object of(float share);
    }

    private static void share() {
        Sentences.plain(43, "Returns the share.");
        Sentences.plain(44, "Returns the bits.");
        Sentences.test(43, "Returns the share of the throws so far whose boomerangs were caught, both numbers converted "
                + "to float.", c -> shares(c, d -> d.caughtShare(), share -> share));
        Sentences.test(43, NO_THROWS, c -> noThrows(c, d -> d.caughtShare()));
        Sentences.test(44, "Returns the bits of the same share, as by Float.floatToIntBits.",
                c -> shares(c, d -> d.caughtShareBits(), share -> Float.floatToIntBits(share)));
        Sentences.test(44, NO_THROWS, c -> noThrows(c, d -> d.caughtShareBits()));
    }

    private static void shares(BoomerangCourt c, Share share, Due due) {
        c.addParty(4, 3);
        c.addParty(1, 0);
        c.summon(1, 0);
        Check.due("none of one, which served", due.of(0f), () -> share.of(c));
        c.setWind(0, 1);
        c.summon(0, 0);
        Check.due("none of two", due.of(0f), () -> share.of(c));
        c.setWind(0, 0);
        c.summon(0, 0);
        Check.due("one of three", due.of(1f / 3f), () -> share.of(c));
        c.summon(0, 0);
        Check.due("a half", due.of(0.5f), () -> share.of(c));
        for (int caught = 3; caught <= 130; caught++) {
            c.summon(0, 0);
            float now = (float) caught / (float) (caught + 2);
            Check.due("caught " + caught, due.of(now), () -> share.of(c));
        }
        BoomerangCourt all = new BoomerangCourt();
        all.addParty(4, 3);
        all.summon(0, 0);
        Check.due("one of one", due.of(1f), () -> share.of(all));
        all.summon(0, 0);
        Check.due("two of two", due.of(1f), () -> share.of(all));
        BoomerangCourt few = new BoomerangCourt();
        few.addParty(4, 3);
        few.buyBoomerangs(20);
        few.summon(0, 0);
        few.setTree(1, 0, true);
        for (int thrown = 2; thrown <= 31; thrown++) {
            few.summon(0, 0);
            float now = 1f / (float) thrown;
            Check.due("one of " + thrown, due.of(now), () -> share.of(few));
        }
        Check.answerOf(() -> few.summon(0, 0));
        Check.due("a refused throw does not count", due.of(1f / 31f), () -> share.of(few));
    }

    private static void noThrows(BoomerangCourt c, Share share) {
        Check.due("a new court", "throws.ArithmeticException", () -> share.of(c));
        c.addParty(1, 0);
        Check.answerOf(() -> c.summon(0, 64));
        Check.answerOf(() -> c.summon(1, 0));
        Check.due("calls that throw no boomerang", "throws.ArithmeticException", () -> share.of(c));
        c.summon(0, 0);
        Check.due("one throw", false, () -> Check.answerOf(() -> share.of(c)) instanceof String);
        c.undo();
        Check.due("which is undone", "throws.ArithmeticException", () -> share.of(c));
        c.save();
        c.summon(0, 0);
        c.restore();
        Check.due("which is not restored", "throws.ArithmeticException", () -> share.of(c));
    }

    private static void mean() {
        Sentences.plain(45, "Returns the mean.");
        Sentences.test(45, "Returns the mean number of steps of the throws so far, up to their ends or to the party "
                + "that was served: the sum divided by their number, both converted to double.", c -> {
            c.addParty(6, 2);
            c.addParty(4, 5);
            c.summon(0, 24);
            Check.due("6, up to the first time", 6.0, () -> c.meanSteps());
            c.setTree(4, 0, true);
            c.summon(1, 24);
            Check.due("6 and 3, up to a tree", 4.5, () -> c.meanSteps());
            c.setTree(1, 0, true);
            c.summon(1, 24);
            Check.due("6, 3 and 0, stopped at once", 3.0, () -> c.meanSteps());
            c.summon(1, 32 + 4);
            Check.due("6, 3, 0 and 8, back to the bench", 17.0 / 4.0, () -> c.meanSteps());
            Check.answerOf(() -> c.summon(0, 36));
            Check.due("a refused throw does not count", 17.0 / 4.0, () -> c.meanSteps());
            c.setWind(6, 3);
            c.summon(1, 36);
            Check.due("6, 3, 0, 8 and 11, on the ground", 28.0 / 5.0, () -> c.meanSteps());
            c.summon(1, 36);
            Check.due("and 11", 39.0 / 6.0, () -> c.meanSteps());
            c.summon(1, 36);
            Check.due("and 11, a mean of many digits", 50.0 / 7.0, () -> c.meanSteps());
        });
        Sentences.test(45, NO_THROWS, c -> noThrows(c, d -> d.meanSteps()));
    }

    private static void signature() {
        Sentences.plain(46, "Returns the signature.");
        Sentences.test(46, "Returns the signature of the yard.", c -> {
            Check.due("an empty yard", 0L, () -> c.signature());
            c.setBench(5, 5);
            c.setWind(3, 3);
            c.pass(5);
            Check.due("neither bench nor wind nor hour matter", 0L, () -> c.signature());
            c.setTree(0, 0, true);
            Check.due("a tree", 31L, () -> c.signature());
            for (int party = 0; party < 8; party++) {
                c.addParty(7 - party, 7);
            }
            long signature = 31;
            for (int party = 0; party < 8; party++) {
                signature = (signature ^ Sentences.bit(7 - party, 7)) * 31;
            }
            long eight = signature;
            Check.due("eight parties in the last row", eight, () -> c.signature());
        });
    }
}
