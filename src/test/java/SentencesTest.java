/**
 * All promises: a test of its own for each sentence of the document that names a boundary. Each of them
 * quotes its sentence; in the end, no sentence of the document may be left without one.
 */
public final class SentencesTest {
    public static void main(String[] args) {
        TermsOfTheYard.test();
        TermsOfTheCourt.test();
        TermsOfCommands.test();
        TermsOfChanges.test();
        PromisesOfTheYard.test();
        PromisesOfThrows.test();
        PromisesOfPleas.test();
        PromisesOfAccounts.test();
        PromisesOfCommands.test();
        PromisesOfTheLine.test();
        Sentences.complete();
        Check.end();
    }
}
