/** The document sentence by sentence: each test names its section and quotes what it tests. */
public final class PromisesTest {
    public static void main(String[] args) {
        OutlineCases.all();
        KindCases.all();
        StepCases.all();
        ExhibitCases.all();
        CallCases.all();
        SetUpCases.all();
        ProcessCases.all();
        TellCases.all();
        RunCases.all();
        JudgeCases.all();
        VerdictCases.all();
        Document.allQuoted();
        Check.finish();
    }
}
