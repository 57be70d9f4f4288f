/** Each sentence of the document that names a boundary, held by cases of its own that quote it. */
public final class BoundaryTest {
    private static final Class<?>[] ALL = {FrameCases.class, TermsCases.class, FilesCases.class, BlocksCases.class,
        TextsCases.class, SnapshotsCases.class, LooksCases.class, OutlookCases.class};

    private BoundaryTest() {
    }

    public static void main(String[] args) throws Exception {
        for (Class<?> cases : ALL) {
            Cases.runAll(cases);
        }
        int wrong = Cases.wrong;
        for (String fault : Quotes.faults(Cases.quotes)) {
            wrong++;
            System.out.println(fault);
        }
        System.out.println(wrong == 0 ? Cases.checks + " answers are as due, " + Cases.quotes.size() + " quotes"
            : wrong + " are wrong");
        if (wrong != 0) {
            System.exit(1);
        }
    }
}
