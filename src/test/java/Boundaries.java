/** Each sentence of the document that names a boundary case, with a test of its own. */
public final class Boundaries {
    private Boundaries() {
    }

    public static void main(String[] args) throws Exception {
        Sentences s = new Sentences();
        AnswerCases.all(s);
        LanguageCases.all(s);
        ProgramCases.all(s);
        AnalysisCases.all(s);
        RunCases.all(s);
        BufferCases.all(s);
        LanguagePromises.all(s);
        ProgramPromises.all(s);
        int faults = s.finish();
        System.out.println("Boundaries: " + s.tests() + " sentences, " + Desk.answers + " answers, " + Desk.wrong
                + " wrong, " + faults + " faults of the tests");
        if (Desk.wrong > 0 || faults > 0) {
            System.exit(1);
        }
    }
}
