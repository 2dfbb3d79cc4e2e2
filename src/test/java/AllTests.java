/** Runs every test of the project; the last line tells how many passed and failed. */
final class AllTests {
    private AllTests() {
    }

    public static void main(String[] args) {
        PlanTest.all();
        PlanEdgeTest.all();
        SpaceEdgeTest.all();
        PlanRunTest.all();
        PermitTest.all();
        PermitEdgeTest.all();
        ReckonEdgeTest.all();
        PermitRunTest.all();
        AccessTest.all();
        AccessEdgeTest.all();
        OffEdgeTest.all();
        AccessRunTest.all();
        MatrixTest.all();
        MatrixTextEdgeTest.all();
        AlarmEdgeTest.all();
        MatrixRunTest.all();
        ProgramTest.all();
        ProgramEdgeTest.all();
        ProgramRunTest.all();
        BusTest.all();
        BusEdgeTest.all();
        HeardEdgeTest.all();
        LiftTest.all();
        LiftEdgeTest.all();
        SmokeTest.all();
        SmokeEdgeTest.all();
        HouseRunTest.all();
        RandomCallTest.all();
        FaceTest.all(args.length > 0 ? args[0] : "src/main/java/TowerHouse.java");
        ReadmeTest.all(args.length > 1 ? args[1] : "README.md");
        System.out.println("project " + Checks.passed + " " + Checks.failures.size());
        if (!Checks.failures.isEmpty()) {
            System.exit(1);
        }
    }
}
