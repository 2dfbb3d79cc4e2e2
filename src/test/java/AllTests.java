/** Runs every test of the project; the last line tells how many passed and failed. */
final class AllTests {
    private AllTests() {
    }

    public static void main(String[] args) {
        PlanTest.all();
        PlanRunTest.all();
        PermitTest.all();
        PermitRunTest.all();
        AccessTest.all();
        AccessRunTest.all();
        MatrixTest.all();
        MatrixRunTest.all();
        ProgramTest.all();
        ProgramRunTest.all();
        BusTest.all();
        LiftTest.all();
        SmokeTest.all();
        RandomCallTest.all();
        FaceTest.all(args.length > 0 ? args[0] : "src/main/java/TowerHouse.java");
        System.out.println("project " + Checks.passed + " " + Checks.failures.size());
        if (!Checks.failures.isEmpty()) {
            System.exit(1);
        }
    }
}
